theorem dX9_init_0 : decode cX9_init 0 = .ok (.aload_n 0, 1) := by decide +kernel
theorem dX9_init_1 : decode cX9_init 1 = .ok (.invokespecial 1, 3) := by decide +kernel
theorem dX9_init_4 : decode cX9_init 4 = .ok (.aload_n 0, 1) := by decide +kernel
theorem dX9_init_5 : decode cX9_init 5 = .ok (.bipush 7, 2) := by decide +kernel
theorem dX9_init_7 : decode cX9_init 7 = .ok (.newarray .int, 2) := by decide +kernel
theorem dX9_init_9 : decode cX9_init 9 = .ok (.putfield 7, 3) := by decide +kernel
theorem dX9_init_12 : decode cX9_init 12 = .ok (.aload_n 0, 1) := by decide +kernel
theorem dX9_init_13 : decode cX9_init 13 = .ok (.sipush 5580, 3) := by decide +kernel
theorem dX9_init_16 : decode cX9_init 16 = .ok (.newarray .int, 2) := by decide +kernel
theorem dX9_init_18 : decode cX9_init 18 = .ok (.putfield 13, 3) := by decide +kernel
theorem dX9_init_21 : decode cX9_init 21 = .ok (.aload_n 0, 1) := by decide +kernel
theorem dX9_init_22 : decode cX9_init 22 = .ok (.sipush 11160, 3) := by decide +kernel
theorem dX9_init_25 : decode cX9_init 25 = .ok (.newarray .int, 2) := by decide +kernel
theorem dX9_init_27 : decode cX9_init 27 = .ok (.putfield 16, 3) := by decide +kernel
theorem dX9_init_30 : decode cX9_init 30 = .ok (.aload_n 0, 1) := by decide +kernel
theorem dX9_init_31 : decode cX9_init 31 = .ok (.iconst 2, 1) := by decide +kernel
theorem dX9_init_32 : decode cX9_init 32 = .ok (.newarray .boolean, 2) := by decide +kernel
theorem dX9_init_34 : decode cX9_init 34 = .ok (.putfield 19, 3) := by decide +kernel
theorem dX9_init_37 : decode cX9_init 37 = .ok (.aload_n 0, 1) := by decide +kernel
theorem dX9_init_38 : decode cX9_init 38 = .ok (.sipush 400, 3) := by decide +kernel
theorem dX9_init_41 : decode cX9_init 41 = .ok (.newarray .int, 2) := by decide +kernel
theorem dX9_init_43 : decode cX9_init 43 = .ok (.putfield 23, 3) := by decide +kernel
theorem dX9_init_46 : decode cX9_init 46 = .ok (.aload_n 0, 1) := by decide +kernel
theorem dX9_init_47 : decode cX9_init 47 = .ok (.iconst (-1), 1) := by decide +kernel
theorem dX9_init_48 : decode cX9_init 48 = .ok (.putfield 26, 3) := by decide +kernel
theorem dX9_init_51 : decode cX9_init 51 = .ok (.aload_n 0, 1) := by decide +kernel
theorem dX9_init_52 : decode cX9_init 52 = .ok (.bipush 96, 2) := by decide +kernel
theorem dX9_init_54 : decode cX9_init 54 = .ok (.newarray .int, 2) := by decide +kernel
theorem dX9_init_56 : decode cX9_init 56 = .ok (.putfield 30, 3) := by decide +kernel
theorem dX9_init_59 : decode cX9_init 59 = .ok (.aload_n 0, 1) := by decide +kernel
theorem dX9_init_60 : decode cX9_init 60 = .ok (.sipush 400, 3) := by decide +kernel
theorem dX9_init_63 : decode cX9_init 63 = .ok (.newarray .int, 2) := by decide +kernel
theorem dX9_init_65 : decode cX9_init 65 = .ok (.putfield 33, 3) := by decide +kernel
theorem dX9_init_68 : decode cX9_init 68 = .ok (.aload_n 0, 1) := by decide +kernel
theorem dX9_init_69 : decode cX9_init 69 = .ok (.sipush 400, 3) := by decide +kernel
theorem dX9_init_72 : decode cX9_init 72 = .ok (.newarray .int, 2) := by decide +kernel
theorem dX9_init_74 : decode cX9_init 74 = .ok (.putfield 36, 3) := by decide +kernel
theorem dX9_init_77 : decode cX9_init 77 = .ok (.aload_n 0, 1) := by decide +kernel
theorem dX9_init_78 : decode cX9_init 78 = .ok (.sipush 400, 3) := by decide +kernel
theorem dX9_init_81 : decode cX9_init 81 = .ok (.newarray .int, 2) := by decide +kernel
theorem dX9_init_83 : decode cX9_init 83 = .ok (.putfield 39, 3) := by decide +kernel
theorem dX9_init_86 : decode cX9_init 86 = .ok (.aload_n 0, 1) := by decide +kernel
theorem dX9_init_87 : decode cX9_init 87 = .ok (.sipush 400, 3) := by decide +kernel
theorem dX9_init_90 : decode cX9_init 90 = .ok (.newarray .int, 2) := by decide +kernel
theorem dX9_init_92 : decode cX9_init 92 = .ok (.putfield 42, 3) := by decide +kernel
theorem dX9_init_95 : decode cX9_init 95 = .ok (.aload_n 0, 1) := by decide +kernel
theorem dX9_init_96 : decode cX9_init 96 = .ok (.bipush 10, 2) := by decide +kernel
theorem dX9_init_98 : decode cX9_init 98 = .ok (.newarray .long, 2) := by decide +kernel
theorem dX9_init_100 : decode cX9_init 100 = .ok (.dup, 1) := by decide +kernel
theorem dX9_init_101 : decode cX9_init 101 = .ok (.iconst 0, 1) := by decide +kernel
theorem dX9_init_102 : decode cX9_init 102 = .ok (.ldc2_w 45, 3) := by decide +kernel
theorem dX9_init_105 : decode cX9_init 105 = .ok (.lastore, 1) := by decide +kernel
theorem dX9_init_106 : decode cX9_init 106 = .ok (.dup, 1) := by decide +kernel
theorem dX9_init_107 : decode cX9_init 107 = .ok (.iconst 1, 1) := by decide +kernel
theorem dX9_init_108 : decode cX9_init 108 = .ok (.ldc2_w 47, 3) := by decide +kernel
theorem dX9_init_111 : decode cX9_init 111 = .ok (.lastore, 1) := by decide +kernel
theorem dX9_init_112 : decode cX9_init 112 = .ok (.dup, 1) := by decide +kernel
theorem dX9_init_113 : decode cX9_init 113 = .ok (.iconst 2, 1) := by decide +kernel
theorem dX9_init_114 : decode cX9_init 114 = .ok (.ldc2_w 49, 3) := by decide +kernel
theorem dX9_init_117 : decode cX9_init 117 = .ok (.lastore, 1) := by decide +kernel
theorem dX9_init_118 : decode cX9_init 118 = .ok (.dup, 1) := by decide +kernel
theorem dX9_init_119 : decode cX9_init 119 = .ok (.iconst 3, 1) := by decide +kernel
theorem dX9_init_120 : decode cX9_init 120 = .ok (.ldc2_w 51, 3) := by decide +kernel
theorem dX9_init_123 : decode cX9_init 123 = .ok (.lastore, 1) := by decide +kernel
theorem dX9_init_124 : decode cX9_init 124 = .ok (.dup, 1) := by decide +kernel
theorem dX9_init_125 : decode cX9_init 125 = .ok (.iconst 4, 1) := by decide +kernel
theorem dX9_init_126 : decode cX9_init 126 = .ok (.ldc2_w 53, 3) := by decide +kernel
theorem dX9_init_129 : decode cX9_init 129 = .ok (.lastore, 1) := by decide +kernel
theorem dX9_init_130 : decode cX9_init 130 = .ok (.dup, 1) := by decide +kernel
theorem dX9_init_131 : decode cX9_init 131 = .ok (.iconst 5, 1) := by decide +kernel
theorem dX9_init_132 : decode cX9_init 132 = .ok (.ldc2_w 55, 3) := by decide +kernel
theorem dX9_init_135 : decode cX9_init 135 = .ok (.lastore, 1) := by decide +kernel
theorem dX9_init_136 : decode cX9_init 136 = .ok (.dup, 1) := by decide +kernel
theorem dX9_init_137 : decode cX9_init 137 = .ok (.bipush 6, 2) := by decide +kernel
theorem dX9_init_139 : decode cX9_init 139 = .ok (.ldc2_w 57, 3) := by decide +kernel
theorem dX9_init_142 : decode cX9_init 142 = .ok (.lastore, 1) := by decide +kernel
theorem dX9_init_143 : decode cX9_init 143 = .ok (.dup, 1) := by decide +kernel
theorem dX9_init_144 : decode cX9_init 144 = .ok (.bipush 7, 2) := by decide +kernel
theorem dX9_init_146 : decode cX9_init 146 = .ok (.ldc2_w 59, 3) := by decide +kernel
theorem dX9_init_149 : decode cX9_init 149 = .ok (.lastore, 1) := by decide +kernel
theorem dX9_init_150 : decode cX9_init 150 = .ok (.dup, 1) := by decide +kernel
theorem dX9_init_151 : decode cX9_init 151 = .ok (.bipush 8, 2) := by decide +kernel
theorem dX9_init_153 : decode cX9_init 153 = .ok (.ldc2_w 61, 3) := by decide +kernel
theorem dX9_init_156 : decode cX9_init 156 = .ok (.lastore, 1) := by decide +kernel
theorem dX9_init_157 : decode cX9_init 157 = .ok (.dup, 1) := by decide +kernel
theorem dX9_init_158 : decode cX9_init 158 = .ok (.bipush 9, 2) := by decide +kernel
theorem dX9_init_160 : decode cX9_init 160 = .ok (.ldc2_w 63, 3) := by decide +kernel
theorem dX9_init_163 : decode cX9_init 163 = .ok (.lastore, 1) := by decide +kernel
theorem dX9_init_164 : decode cX9_init 164 = .ok (.putfield 65, 3) := by decide +kernel
theorem dX9_init_167 : decode cX9_init 167 = .ok (.aload_n 0, 1) := by decide +kernel
theorem dX9_init_168 : decode cX9_init 168 = .ok (.iconst 4, 1) := by decide +kernel
theorem dX9_init_169 : decode cX9_init 169 = .ok (.newarray .long, 2) := by decide +kernel
theorem dX9_init_171 : decode cX9_init 171 = .ok (.dup, 1) := by decide +kernel
theorem dX9_init_172 : decode cX9_init 172 = .ok (.iconst 0, 1) := by decide +kernel
theorem dX9_init_173 : decode cX9_init 173 = .ok (.ldc2_w 69, 3) := by decide +kernel
theorem dX9_init_176 : decode cX9_init 176 = .ok (.lastore, 1) := by decide +kernel
theorem dX9_init_177 : decode cX9_init 177 = .ok (.dup, 1) := by decide +kernel
theorem dX9_init_178 : decode cX9_init 178 = .ok (.iconst 1, 1) := by decide +kernel
theorem dX9_init_179 : decode cX9_init 179 = .ok (.ldc2_w 71, 3) := by decide +kernel
theorem dX9_init_182 : decode cX9_init 182 = .ok (.lastore, 1) := by decide +kernel
theorem dX9_init_183 : decode cX9_init 183 = .ok (.dup, 1) := by decide +kernel
theorem dX9_init_184 : decode cX9_init 184 = .ok (.iconst 2, 1) := by decide +kernel
theorem dX9_init_185 : decode cX9_init 185 = .ok (.ldc2_w 73, 3) := by decide +kernel
theorem dX9_init_188 : decode cX9_init 188 = .ok (.lastore, 1) := by decide +kernel
theorem dX9_init_189 : decode cX9_init 189 = .ok (.dup, 1) := by decide +kernel
theorem dX9_init_190 : decode cX9_init 190 = .ok (.iconst 3, 1) := by decide +kernel
theorem dX9_init_191 : decode cX9_init 191 = .ok (.ldc2_w 75, 3) := by decide +kernel
theorem dX9_init_194 : decode cX9_init 194 = .ok (.lastore, 1) := by decide +kernel
theorem dX9_init_195 : decode cX9_init 195 = .ok (.putfield 77, 3) := by decide +kernel
theorem dX9_init_198 : decode cX9_init 198 = .ok (.aload_n 0, 1) := by decide +kernel
theorem dX9_init_199 : decode cX9_init 199 = .ok (.bipush 13, 2) := by decide +kernel
theorem dX9_init_201 : decode cX9_init 201 = .ok (.newarray .long, 2) := by decide +kernel
theorem dX9_init_203 : decode cX9_init 203 = .ok (.putfield 80, 3) := by decide +kernel
theorem dX9_init_206 : decode cX9_init 206 = .ok (.aload_n 0, 1) := by decide +kernel
theorem dX9_init_207 : decode cX9_init 207 = .ok (.sipush 400, 3) := by decide +kernel
theorem dX9_init_210 : decode cX9_init 210 = .ok (.newarray .long, 2) := by decide +kernel
theorem dX9_init_212 : decode cX9_init 212 = .ok (.putfield 83, 3) := by decide +kernel
theorem dX9_init_215 : decode cX9_init 215 = .ok (.aload_n 0, 1) := by decide +kernel
theorem dX9_init_216 : decode cX9_init 216 = .ok (.bipush 64, 2) := by decide +kernel
theorem dX9_init_218 : decode cX9_init 218 = .ok (.newarray .int, 2) := by decide +kernel
theorem dX9_init_220 : decode cX9_init 220 = .ok (.putfield 86, 3) := by decide +kernel
theorem dX9_init_223 : decode cX9_init 223 = .ok (.aload_n 0, 1) := by decide +kernel
theorem dX9_init_224 : decode cX9_init 224 = .ok (.bipush 64, 2) := by decide +kernel
theorem dX9_init_226 : decode cX9_init 226 = .ok (.newarray .boolean, 2) := by decide +kernel
theorem dX9_init_228 : decode cX9_init 228 = .ok (.putfield 89, 3) := by decide +kernel
theorem dX9_init_231 : decode cX9_init 231 = .ok (.aload_n 0, 1) := by decide +kernel
theorem dX9_init_232 : decode cX9_init 232 = .ok (.bipush 64, 2) := by decide +kernel
theorem dX9_init_234 : decode cX9_init 234 = .ok (.newarray .int, 2) := by decide +kernel
theorem dX9_init_236 : decode cX9_init 236 = .ok (.putfield 92, 3) := by decide +kernel
theorem dX9_init_239 : decode cX9_init 239 = .ok (.aload_n 0, 1) := by decide +kernel
theorem dX9_init_240 : decode cX9_init 240 = .ok (.sipush 256, 3) := by decide +kernel
theorem dX9_init_243 : decode cX9_init 243 = .ok (.newarray .int, 2) := by decide +kernel
theorem dX9_init_245 : decode cX9_init 245 = .ok (.putfield 95, 3) := by decide +kernel
theorem dX9_init_248 : decode cX9_init 248 = .ok (.aload_n 0, 1) := by decide +kernel
theorem dX9_init_249 : decode cX9_init 249 = .ok (.sipush 256, 3) := by decide +kernel
theorem dX9_init_252 : decode cX9_init 252 = .ok (.newarray .int, 2) := by decide +kernel
theorem dX9_init_254 : decode cX9_init 254 = .ok (.putfield 98, 3) := by decide +kernel
theorem dX9_init_257 : decode cX9_init 257 = .ok (.aload_n 0, 1) := by decide +kernel
theorem dX9_init_258 : decode cX9_init 258 = .ok (.sipush 256, 3) := by decide +kernel
theorem dX9_init_261 : decode cX9_init 261 = .ok (.newarray .int, 2) := by decide +kernel
theorem dX9_init_263 : decode cX9_init 263 = .ok (.putfield 101, 3) := by decide +kernel
theorem dX9_init_266 : decode cX9_init 266 = .ok (.aload_n 0, 1) := by decide +kernel
theorem dX9_init_267 : decode cX9_init 267 = .ok (.bipush 8, 2) := by decide +kernel
theorem dX9_init_269 : decode cX9_init 269 = .ok (.newarray .int, 2) := by decide +kernel
theorem dX9_init_271 : decode cX9_init 271 = .ok (.putfield 104, 3) := by decide +kernel
theorem dX9_init_274 : decode cX9_init 274 = .ok (.aload_n 0, 1) := by decide +kernel
theorem dX9_init_275 : decode cX9_init 275 = .ok (.bipush 8, 2) := by decide +kernel
theorem dX9_init_277 : decode cX9_init 277 = .ok (.newarray .int, 2) := by decide +kernel
theorem dX9_init_279 : decode cX9_init 279 = .ok (.putfield 107, 3) := by decide +kernel
theorem dX9_init_282 : decode cX9_init 282 = .ok (.aload_n 0, 1) := by decide +kernel
theorem dX9_init_283 : decode cX9_init 283 = .ok (.ldc 110, 2) := by decide +kernel
theorem dX9_init_285 : decode cX9_init 285 = .ok (.newarray .boolean, 2) := by decide +kernel
theorem dX9_init_287 : decode cX9_init 287 = .ok (.putfield 111, 3) := by decide +kernel
theorem dX9_init_290 : decode cX9_init 290 = .ok (.aload_n 0, 1) := by decide +kernel
theorem dX9_init_291 : decode cX9_init 291 = .ok (.sipush 400, 3) := by decide +kernel
theorem dX9_init_294 : decode cX9_init 294 = .ok (.newarray .int, 2) := by decide +kernel
theorem dX9_init_296 : decode cX9_init 296 = .ok (.putfield 114, 3) := by decide +kernel
theorem dX9_init_299 : decode cX9_init 299 = .ok (.aload_n 0, 1) := by decide +kernel
theorem dX9_init_300 : decode cX9_init 300 = .ok (.bipush 64, 2) := by decide +kernel
theorem dX9_init_302 : decode cX9_init 302 = .ok (.newarray .int, 2) := by decide +kernel
theorem dX9_init_304 : decode cX9_init 304 = .ok (.putfield 117, 3) := by decide +kernel
theorem dX9_init_307 : decode cX9_init 307 = .ok (.aload_n 0, 1) := by decide +kernel
theorem dX9_init_308 : decode cX9_init 308 = .ok (.bipush 64, 2) := by decide +kernel
theorem dX9_init_310 : decode cX9_init 310 = .ok (.newarray .int, 2) := by decide +kernel
theorem dX9_init_312 : decode cX9_init 312 = .ok (.putfield 120, 3) := by decide +kernel
theorem dX9_init_315 : decode cX9_init 315 = .ok (.aload_n 0, 1) := by decide +kernel
theorem dX9_init_316 : decode cX9_init 316 = .ok (.getfield 13, 3) := by decide +kernel
theorem dX9_init_319 : decode cX9_init 319 = .ok (.iconst 3, 1) := by decide +kernel
theorem dX9_init_320 : decode cX9_init 320 = .ok (.iconst (-1), 1) := by decide +kernel
theorem dX9_init_321 : decode cX9_init 321 = .ok (.iastore, 1) := by decide +kernel
theorem dX9_init_322 : decode cX9_init 322 = .ok (.aload_n 0, 1) := by decide +kernel
theorem dX9_init_323 : decode cX9_init 323 = .ok (.getfield 13, 3) := by decide +kernel
theorem dX9_init_326 : decode cX9_init 326 = .ok (.iconst 5, 1) := by decide +kernel
theorem dX9_init_327 : decode cX9_init 327 = .ok (.iconst 1, 1) := by decide +kernel
theorem dX9_init_328 : decode cX9_init 328 = .ok (.iastore, 1) := by decide +kernel
theorem dX9_init_329 : decode cX9_init 329 = .ok (.return_, 1) := by decide +kernel
def bX9_init_0 (l : Launch) (E : Ev) (d : Nat) (Q : Option Value → Hp → Prop) : Kt := k_aload 0 (k_objInit (k_aload 0 (k_push (.int 7) (k_newarr 1 7 (k_putR 9 55 2 (k_aload 0 (k_push (.int 5580) (k_newarr 1 5580 (k_putR 9 55 3 (k_aload 0 (k_push (.int 11160) (k_newarr 1 11160 (k_putR 9 55 4 (k_aload 0 (k_push (.int 2) (k_newarr 3 2 (k_putR 9 55 5 (k_aload 0 (k_push (.int 400) (k_newarr 1 400 (k_putR 9 55 7 (k_aload 0 (k_push (.int (-1)) (k_putI 9 55 13 (k_aload 0 (k_push (.int 96) (k_newarr 1 96 (k_putR 9 55 16 (k_aload 0 (k_push (.int 400) (k_newarr 1 400 (k_putR 9 55 18 (k_aload 0 (k_push (.int 400) (k_newarr 1 400 (k_putR 9 55 19 (k_aload 0 (k_push (.int 400) (k_newarr 1 400 (k_putR 9 55 21 (k_aload 0 (k_push (.int 400) (k_newarr 1 400 (k_putR 9 55 22 (k_aload 0 (k_push (.int 10) (k_newarr 2 10 (k_dup (k_push (.int 0) (k_push (.long 1167858) (k_lastore (k_dup (k_push (.int 1) (k_push (.long 525908) (k_lastore (k_dup (k_push (.int 2) (k_push (.long 273980692) (k_lastore (k_dup (k_push (.int 3) (k_push (.long 113716) (k_lastore (k_dup (k_push (.int 4) (k_push (.long 24282707) (k_lastore (k_dup (k_push (.int 5) (k_push (.long 23569509) (k_lastore (k_dup (k_push (.int 6) (k_push (.long 638407) (k_lastore (k_dup (k_push (.int 7) (k_push (.long 12009203) (k_lastore (k_dup (k_push (.int 8) (k_push (.long 22664236) (k_lastore (k_dup (k_push (.int 9) (k_push (.long 758955) (k_lastore (k_putR 9 55 25 (k_aload 0 (k_push (.int 4) (k_newarr 2 4 (k_dup (k_push (.int 0) (k_push (.long 114292) (k_lastore (k_dup (k_push (.int 1) (k_push (.long 6328499) (k_lastore (k_dup (k_push (.int 2) (k_push (.long 67155) (k_lastore (k_dup (k_push (.int 3) (k_push (.long 398995) (k_lastore (k_putR 9 55 26 (k_aload 0 (k_push (.int 13) (k_newarr 2 13 (k_putR 9 55 28 (k_aload 0 (k_push (.int 400) (k_newarr 2 400 (k_putR 9 55 29 (k_aload 0 (k_push (.int 64) (k_newarr 1 64 (k_putR 9 55 33 (k_aload 0 (k_push (.int 64) (k_newarr 3 64 (k_putR 9 55 35 (k_aload 0 (k_push (.int 64) (k_newarr 1 64 (k_putR 9 55 36 (k_aload 0 (k_push (.int 256) (k_newarr 1 256 (k_putR 9 55 37 (k_aload 0 (k_push (.int 256) (k_newarr 1 256 (k_putR 9 55 38 (k_aload 0 (k_push (.int 256) (k_newarr 1 256 (k_putR 9 55 39 (k_aload 0 (k_push (.int 8) (k_newarr 1 8 (k_putR 9 55 40 (k_aload 0 (k_push (.int 8) (k_newarr 1 8 (k_putR 9 55 44 (k_aload 0 (k_push (.int 65536) (k_newarr 3 65536 (k_putR 9 55 45 (k_aload 0 (k_push (.int 400) (k_newarr 1 400 (k_putR 9 55 49 (k_aload 0 (k_push (.int 64) (k_newarr 1 64 (k_putR 9 55 50 (k_aload 0 (k_push (.int 64) (k_newarr 1 64 (k_putR 9 55 51 (k_aload 0 (k_getR 9 55 3 (k_push (.int 3) (k_push (.int (-1)) (k_iastore (k_aload 0 (k_getR 9 55 3 (k_push (.int 5) (k_push (.int 1) (k_iastore (k_vret Q)))))))))))))))))))))))))))))))))))))))))))))))))))))))))))))))))))))))))))))))))))))))))))))))))))))))))))))))))))))))))))))))))))))))))))))))))))))))))))))))))))))))))))))))
set_option maxRecDepth 100000 in
set_option maxHeartbeats 4000000 in
theorem gX9_init_0 {l : Launch} {E : Ev} {d : Nat} {Q : Option Value → Hp → Prop} {ls : Lv} {st : List Value} {h : Hp} (hB : bX9_init_0 l E d Q ls st h) : Go l E YX9_init (d + 1) 26 86312 Q 0 0 0 ls st h :=
  (sd_aload_n (i := 0) rfl dX9_init_0 (sd_objInit mw_1162 mw_125 mw_126 (by omega) dX9_init_1 (sd_aload_n (i := 0) rfl dX9_init_4 (sd_bipush (v := 7) (by decide) dX9_init_5 (sd_newarr (at' := .int) (ki := 1) (B := 7) (by decide) mw_214 (by decide) (by decide) (by decide) dX9_init_7 (sd_putR clsX9 (f := 2) (by decide) (fun _ _ _ => rfl) rfl (Or.inr ⟨rfl, rfl, rfl⟩) mw_1180 dX9_init_9 (sd_aload_n (i := 0) rfl dX9_init_12 (sd_sipush (v := 5580) (by decide) dX9_init_13 (sd_newarr (at' := .int) (ki := 1) (B := 5580) (by decide) mw_214 (by decide) (by decide) (by decide) dX9_init_16 (sd_putR clsX9 (f := 3) (by decide) (fun _ _ _ => rfl) rfl (Or.inr ⟨rfl, rfl, rfl⟩) mw_1181 dX9_init_18 (sd_aload_n (i := 0) rfl dX9_init_21 (sd_sipush (v := 11160) (by decide) dX9_init_22 (sd_newarr (at' := .int) (ki := 1) (B := 11160) (by decide) mw_214 (by decide) (by decide) (by decide) dX9_init_25 (sd_putR clsX9 (f := 4) (by decide) (fun _ _ _ => rfl) rfl (Or.inr ⟨rfl, rfl, rfl⟩) mw_1182 dX9_init_27 (sd_aload_n (i := 0) rfl dX9_init_30 (sd_iconst (v := 2) (by decide) dX9_init_31 (sd_newarr (at' := .boolean) (ki := 3) (B := 2) (by decide) mw_260 (by decide) (by decide) (by decide) dX9_init_32 (sd_putR clsX9 (f := 5) (by decide) (fun _ _ _ => rfl) rfl (Or.inr ⟨rfl, rfl, rfl⟩) mw_1183 dX9_init_34 (sd_aload_n (i := 0) rfl dX9_init_37 (sd_sipush (v := 400) (by decide) dX9_init_38 (sd_newarr (at' := .int) (ki := 1) (B := 400) (by decide) mw_214 (by decide) (by decide) (by decide) dX9_init_41 (sd_putR clsX9 (f := 7) (by decide) (fun _ _ _ => rfl) rfl (Or.inr ⟨rfl, rfl, rfl⟩) mw_1185 dX9_init_43 (sd_aload_n (i := 0) rfl dX9_init_46 (sd_iconst (v := (-1)) (by decide) dX9_init_47 (sd_putI clsX9 (f := 13) (by decide) (fun _ _ _ => rfl) rfl (Or.inl rfl) mw_1191 dX9_init_48 (sd_aload_n (i := 0) rfl dX9_init_51 (sd_bipush (v := 96) (by decide) dX9_init_52 (sd_newarr (at' := .int) (ki := 1) (B := 96) (by decide) mw_214 (by decide) (by decide) (by decide) dX9_init_54 (sd_putR clsX9 (f := 16) (by decide) (fun _ _ _ => rfl) rfl (Or.inr ⟨rfl, rfl, rfl⟩) mw_1194 dX9_init_56 (sd_aload_n (i := 0) rfl dX9_init_59 (sd_sipush (v := 400) (by decide) dX9_init_60 (sd_newarr (at' := .int) (ki := 1) (B := 400) (by decide) mw_214 (by decide) (by decide) (by decide) dX9_init_63 (sd_putR clsX9 (f := 18) (by decide) (fun _ _ _ => rfl) rfl (Or.inr ⟨rfl, rfl, rfl⟩) mw_1196 dX9_init_65 (sd_aload_n (i := 0) rfl dX9_init_68 (sd_sipush (v := 400) (by decide) dX9_init_69 (sd_newarr (at' := .int) (ki := 1) (B := 400) (by decide) mw_214 (by decide) (by decide) (by decide) dX9_init_72 (sd_putR clsX9 (f := 19) (by decide) (fun _ _ _ => rfl) rfl (Or.inr ⟨rfl, rfl, rfl⟩) mw_1197 dX9_init_74 (sd_aload_n (i := 0) rfl dX9_init_77 (sd_sipush (v := 400) (by decide) dX9_init_78 (sd_newarr (at' := .int) (ki := 1) (B := 400) (by decide) mw_214 (by decide) (by decide) (by decide) dX9_init_81 (sd_putR clsX9 (f := 21) (by decide) (fun _ _ _ => rfl) rfl (Or.inr ⟨rfl, rfl, rfl⟩) mw_1199 dX9_init_83 (sd_aload_n (i := 0) rfl dX9_init_86 (sd_sipush (v := 400) (by decide) dX9_init_87 (sd_newarr (at' := .int) (ki := 1) (B := 400) (by decide) mw_214 (by decide) (by decide) (by decide) dX9_init_90 (sd_putR clsX9 (f := 22) (by decide) (fun _ _ _ => rfl) rfl (Or.inr ⟨rfl, rfl, rfl⟩) mw_1200 dX9_init_92 (sd_aload_n (i := 0) rfl dX9_init_95 (sd_bipush (v := 10) (by decide) dX9_init_96 (sd_newarr (at' := .long) (ki := 2) (B := 10) (by decide) mw_343 (by decide) (by decide) (by decide) dX9_init_98 (sd_dup dX9_init_100 (sd_iconst (v := 0) (by decide) dX9_init_101 (sd_ldc2 (v := 1167858) mw_1163 dX9_init_102 (sd_lastore dX9_init_105 (sd_dup dX9_init_106 (sd_iconst (v := 1) (by decide) dX9_init_107 (sd_ldc2 (v := 525908) mw_1164 dX9_init_108 (sd_lastore dX9_init_111 (sd_dup dX9_init_112 (sd_iconst (v := 2) (by decide) dX9_init_113 (sd_ldc2 (v := 273980692) mw_1165 dX9_init_114 (sd_lastore dX9_init_117 (sd_dup dX9_init_118 (sd_iconst (v := 3) (by decide) dX9_init_119 (sd_ldc2 (v := 113716) mw_1166 dX9_init_120 (sd_lastore dX9_init_123 (sd_dup dX9_init_124 (sd_iconst (v := 4) (by decide) dX9_init_125 (sd_ldc2 (v := 24282707) mw_1167 dX9_init_126 (sd_lastore dX9_init_129 (sd_dup dX9_init_130 (sd_iconst (v := 5) (by decide) dX9_init_131 (sd_ldc2 (v := 23569509) mw_1168 dX9_init_132 (sd_lastore dX9_init_135 (sd_dup dX9_init_136 (sd_bipush (v := 6) (by decide) dX9_init_137 (sd_ldc2 (v := 638407) mw_1169 dX9_init_139 (sd_lastore dX9_init_142 (sd_dup dX9_init_143 (sd_bipush (v := 7) (by decide) dX9_init_144 (sd_ldc2 (v := 12009203) mw_1170 dX9_init_146 (sd_lastore dX9_init_149 (sd_dup dX9_init_150 (sd_bipush (v := 8) (by decide) dX9_init_151 (sd_ldc2 (v := 22664236) mw_1171 dX9_init_153 (sd_lastore dX9_init_156 (sd_dup dX9_init_157 (sd_bipush (v := 9) (by decide) dX9_init_158 (sd_ldc2 (v := 758955) mw_1172 dX9_init_160 (sd_lastore dX9_init_163 (sd_putR clsX9 (f := 25) (by decide) (fun _ _ _ => rfl) rfl (Or.inr ⟨rfl, rfl, rfl⟩) mw_1203 dX9_init_164 (sd_aload_n (i := 0) rfl dX9_init_167 (sd_iconst (v := 4) (by decide) dX9_init_168 (sd_newarr (at' := .long) (ki := 2) (B := 4) (by decide) mw_343 (by decide) (by decide) (by decide) dX9_init_169 (sd_dup dX9_init_171 (sd_iconst (v := 0) (by decide) dX9_init_172 (sd_ldc2 (v := 114292) mw_1173 dX9_init_173 (sd_lastore dX9_init_176 (sd_dup dX9_init_177 (sd_iconst (v := 1) (by decide) dX9_init_178 (sd_ldc2 (v := 6328499) mw_1174 dX9_init_179 (sd_lastore dX9_init_182 (sd_dup dX9_init_183 (sd_iconst (v := 2) (by decide) dX9_init_184 (sd_ldc2 (v := 67155) mw_1175 dX9_init_185 (sd_lastore dX9_init_188 (sd_dup dX9_init_189 (sd_iconst (v := 3) (by decide) dX9_init_190 (sd_ldc2 (v := 398995) mw_1176 dX9_init_191 (sd_lastore dX9_init_194 (sd_putR clsX9 (f := 26) (by decide) (fun _ _ _ => rfl) rfl (Or.inr ⟨rfl, rfl, rfl⟩) mw_1204 dX9_init_195 (sd_aload_n (i := 0) rfl dX9_init_198 (sd_bipush (v := 13) (by decide) dX9_init_199 (sd_newarr (at' := .long) (ki := 2) (B := 13) (by decide) mw_343 (by decide) (by decide) (by decide) dX9_init_201 (sd_putR clsX9 (f := 28) (by decide) (fun _ _ _ => rfl) rfl (Or.inr ⟨rfl, rfl, rfl⟩) mw_1206 dX9_init_203 (sd_aload_n (i := 0) rfl dX9_init_206 (sd_sipush (v := 400) (by decide) dX9_init_207 (sd_newarr (at' := .long) (ki := 2) (B := 400) (by decide) mw_343 (by decide) (by decide) (by decide) dX9_init_210 (sd_putR clsX9 (f := 29) (by decide) (fun _ _ _ => rfl) rfl (Or.inr ⟨rfl, rfl, rfl⟩) mw_1207 dX9_init_212 (sd_aload_n (i := 0) rfl dX9_init_215 (sd_bipush (v := 64) (by decide) dX9_init_216 (sd_newarr (at' := .int) (ki := 1) (B := 64) (by decide) mw_214 (by decide) (by decide) (by decide) dX9_init_218 (sd_putR clsX9 (f := 33) (by decide) (fun _ _ _ => rfl) rfl (Or.inr ⟨rfl, rfl, rfl⟩) mw_1211 dX9_init_220 (sd_aload_n (i := 0) rfl dX9_init_223 (sd_bipush (v := 64) (by decide) dX9_init_224 (sd_newarr (at' := .boolean) (ki := 3) (B := 64) (by decide) mw_260 (by decide) (by decide) (by decide) dX9_init_226 (sd_putR clsX9 (f := 35) (by decide) (fun _ _ _ => rfl) rfl (Or.inr ⟨rfl, rfl, rfl⟩) mw_1213 dX9_init_228 (sd_aload_n (i := 0) rfl dX9_init_231 (sd_bipush (v := 64) (by decide) dX9_init_232 (sd_newarr (at' := .int) (ki := 1) (B := 64) (by decide) mw_214 (by decide) (by decide) (by decide) dX9_init_234 (sd_putR clsX9 (f := 36) (by decide) (fun _ _ _ => rfl) rfl (Or.inr ⟨rfl, rfl, rfl⟩) mw_1214 dX9_init_236 (sd_aload_n (i := 0) rfl dX9_init_239 (sd_sipush (v := 256) (by decide) dX9_init_240 (sd_newarr (at' := .int) (ki := 1) (B := 256) (by decide) mw_214 (by decide) (by decide) (by decide) dX9_init_243 (sd_putR clsX9 (f := 37) (by decide) (fun _ _ _ => rfl) rfl (Or.inr ⟨rfl, rfl, rfl⟩) mw_1215 dX9_init_245 (sd_aload_n (i := 0) rfl dX9_init_248 (sd_sipush (v := 256) (by decide) dX9_init_249 (sd_newarr (at' := .int) (ki := 1) (B := 256) (by decide) mw_214 (by decide) (by decide) (by decide) dX9_init_252 (sd_putR clsX9 (f := 38) (by decide) (fun _ _ _ => rfl) rfl (Or.inr ⟨rfl, rfl, rfl⟩) mw_1216 dX9_init_254 (sd_aload_n (i := 0) rfl dX9_init_257 (sd_sipush (v := 256) (by decide) dX9_init_258 (sd_newarr (at' := .int) (ki := 1) (B := 256) (by decide) mw_214 (by decide) (by decide) (by decide) dX9_init_261 (sd_putR clsX9 (f := 39) (by decide) (fun _ _ _ => rfl) rfl (Or.inr ⟨rfl, rfl, rfl⟩) mw_1217 dX9_init_263 (sd_aload_n (i := 0) rfl dX9_init_266 (sd_bipush (v := 8) (by decide) dX9_init_267 (sd_newarr (at' := .int) (ki := 1) (B := 8) (by decide) mw_214 (by decide) (by decide) (by decide) dX9_init_269 (sd_putR clsX9 (f := 40) (by decide) (fun _ _ _ => rfl) rfl (Or.inr ⟨rfl, rfl, rfl⟩) mw_1218 dX9_init_271 (sd_aload_n (i := 0) rfl dX9_init_274 (sd_bipush (v := 8) (by decide) dX9_init_275 (sd_newarr (at' := .int) (ki := 1) (B := 8) (by decide) mw_214 (by decide) (by decide) (by decide) dX9_init_277 (sd_putR clsX9 (f := 44) (by decide) (fun _ _ _ => rfl) rfl (Or.inr ⟨rfl, rfl, rfl⟩) mw_1222 dX9_init_279 (sd_aload_n (i := 0) rfl dX9_init_282 (sd_ldc (v := 65536) mw_1177 dX9_init_283 (sd_newarr (at' := .boolean) (ki := 3) (B := 65536) (by decide) mw_260 (by decide) (by decide) (by decide) dX9_init_285 (sd_putR clsX9 (f := 45) (by decide) (fun _ _ _ => rfl) rfl (Or.inr ⟨rfl, rfl, rfl⟩) mw_1223 dX9_init_287 (sd_aload_n (i := 0) rfl dX9_init_290 (sd_sipush (v := 400) (by decide) dX9_init_291 (sd_newarr (at' := .int) (ki := 1) (B := 400) (by decide) mw_214 (by decide) (by decide) (by decide) dX9_init_294 (sd_putR clsX9 (f := 49) (by decide) (fun _ _ _ => rfl) rfl (Or.inr ⟨rfl, rfl, rfl⟩) mw_1227 dX9_init_296 (sd_aload_n (i := 0) rfl dX9_init_299 (sd_bipush (v := 64) (by decide) dX9_init_300 (sd_newarr (at' := .int) (ki := 1) (B := 64) (by decide) mw_214 (by decide) (by decide) (by decide) dX9_init_302 (sd_putR clsX9 (f := 50) (by decide) (fun _ _ _ => rfl) rfl (Or.inr ⟨rfl, rfl, rfl⟩) mw_1228 dX9_init_304 (sd_aload_n (i := 0) rfl dX9_init_307 (sd_bipush (v := 64) (by decide) dX9_init_308 (sd_newarr (at' := .int) (ki := 1) (B := 64) (by decide) mw_214 (by decide) (by decide) (by decide) dX9_init_310 (sd_putR clsX9 (f := 51) (by decide) (fun _ _ _ => rfl) rfl (Or.inr ⟨rfl, rfl, rfl⟩) mw_1229 dX9_init_312 (sd_aload_n (i := 0) rfl dX9_init_315 (sd_getR clsX9 (f := 3) (by decide) (fun _ _ _ => rfl) mw_1181 dX9_init_316 (sd_iconst (v := 3) (by decide) dX9_init_319 (sd_iconst (v := (-1)) (by decide) dX9_init_320 (sd_iastore dX9_init_321 (sd_aload_n (i := 0) rfl dX9_init_322 (sd_getR clsX9 (f := 3) (by decide) (fun _ _ _ => rfl) mw_1181 dX9_init_323 (sd_iconst (v := 5) (by decide) dX9_init_326 (sd_iconst (v := 1) (by decide) dX9_init_327 (sd_iastore dX9_init_328 (sd_vret rfl (by decide) (by decide) dX9_init_329))))))))))))))))))))))))))))))))))))))))))))))))))))))))))))))))))))))))))))))))))))))))))))))))))))))))))))))))))))))))))))))))))))))))))))))))))))))))))))))))))))))))))))))) : Sd l E YX9_init (d + 1) 26 86312 Q 0 0 0 (bX9_init_0 l E d Q)) ls st h hB
theorem eX9_init {l : Launch} {E : Ev} {d : Nat} {Q : Option Value → Hp → Prop} {h : Hp} {a0 : Nat} (hk : Go l E YX9_init d 26 86312 Q 0 0 0 [some (.ref a0)] [] h) : GoM l E YX9_init d 26 86312 [.ref a0] h Q := GoM.of (by decide +kernel) rfl (by simp [entA, YX9_init]) hk
theorem dX9_in_0 : decode cX9_in 0 = .ok (.lload_n 0, 1) := by decide +kernel
theorem dX9_in_1 : decode cX9_in 1 = .ok (.lload_n 2, 1) := by decide +kernel
theorem dX9_in_2 : decode cX9_in 2 = .ok (.lcmp, 1) := by decide +kernel
theorem dX9_in_3 : decode cX9_in 3 = .ok (.ifCond .lt 14, 3) := by decide +kernel
theorem dX9_in_6 : decode cX9_in 6 = .ok (.lload_n 0, 1) := by decide +kernel
theorem dX9_in_7 : decode cX9_in 7 = .ok (.lload 4, 2) := by decide +kernel
theorem dX9_in_9 : decode cX9_in 9 = .ok (.lcmp, 1) := by decide +kernel
theorem dX9_in_10 : decode cX9_in 10 = .ok (.ifCond .gt 7, 3) := by decide +kernel
theorem dX9_in_13 : decode cX9_in 13 = .ok (.iconst 1, 1) := by decide +kernel
theorem dX9_in_14 : decode cX9_in 14 = .ok (.goto 4, 3) := by decide +kernel
theorem dX9_in_17 : decode cX9_in 17 = .ok (.iconst 0, 1) := by decide +kernel
theorem dX9_in_18 : decode cX9_in 18 = .ok (.ireturn, 1) := by decide +kernel
def bX9_in_0 (l : Launch) (E : Ev) (d : Nat) (Q : Option Value → Hp → Prop) : Kt := k_lload 0 (k_lload 2 (k_lcmp (k_if_lt (k_push (.int 0) (k_iret .boolean Q)) (k_lload 0 (k_lload 4 (k_lcmp (k_if_gt (k_push (.int 0) (k_iret .boolean Q)) (k_push (.int 1) (k_iret .boolean Q)))))))))
set_option maxRecDepth 100000 in
set_option maxHeartbeats 4000000 in
theorem gX9_in_0 {l : Launch} {E : Ev} {d : Nat} {Q : Option Value → Hp → Prop} {ls : Lv} {st : List Value} {h : Hp} (hB : bX9_in_0 l E d Q ls st h) : Go l E YX9_in (d + 1) 0 0 Q 0 0 0 ls st h :=
  (sd_lload_n (i := 0) rfl dX9_in_0 (sd_lload_n (i := 2) rfl dX9_in_1 (sd_lcmp dX9_in_2 (sd_if_lt (tgt := 17) (by decide) dX9_in_3 (sd_iconst (v := 0) (by decide) dX9_in_17 (sd_iret (ty := .boolean) rfl (by decide) (by decide) dX9_in_18)) (sd_lload_n (i := 0) rfl dX9_in_6 (sd_lload (n := 4) dX9_in_7 (sd_lcmp dX9_in_9 (sd_if_gt (tgt := 17) (by decide) dX9_in_10 (sd_iconst (v := 0) (by decide) dX9_in_17 (sd_iret (ty := .boolean) rfl (by decide) (by decide) dX9_in_18)) (sd_iconst (v := 1) (by decide) dX9_in_13 (sd_goto (tgt := 18) (by decide) dX9_in_14 (sd_iret (ty := .boolean) rfl (by decide) (by decide) dX9_in_18)))))))))) : Sd l E YX9_in (d + 1) 0 0 Q 0 0 0 (bX9_in_0 l E d Q)) ls st h hB
theorem eX9_in {l : Launch} {E : Ev} {d : Nat} {Q : Option Value → Hp → Prop} {h : Hp} {x1 : Int64} {x2 : Int64} {x3 : Int64} (hk : Go l E YX9_in d 0 0 Q 0 0 0 [some (.long x1), none, some (.long x2), none, some (.long x3), none] [] h) : GoM l E YX9_in d 0 0 [.long x1, .long x2, .long x3] h Q := GoM.of (by decide +kernel) rfl (by simp [entA, YX9_in]) hk
theorem dX9_is_0 : decode cX9_is 0 = .ok (.iload_n 0, 1) := by decide +kernel
theorem dX9_is_1 : decode cX9_is 1 = .ok (.iload_n 1, 1) := by decide +kernel
theorem dX9_is_2 : decode cX9_is 2 = .ok (.ishr, 1) := by decide +kernel
theorem dX9_is_3 : decode cX9_is 3 = .ok (.iconst 1, 1) := by decide +kernel
theorem dX9_is_4 : decode cX9_is 4 = .ok (.iand, 1) := by decide +kernel
theorem dX9_is_5 : decode cX9_is 5 = .ok (.iconst 1, 1) := by decide +kernel
theorem dX9_is_6 : decode cX9_is 6 = .ok (.if_icmp .ne 7, 3) := by decide +kernel
theorem dX9_is_9 : decode cX9_is 9 = .ok (.iconst 1, 1) := by decide +kernel
theorem dX9_is_10 : decode cX9_is 10 = .ok (.goto 4, 3) := by decide +kernel
theorem dX9_is_13 : decode cX9_is 13 = .ok (.iconst 0, 1) := by decide +kernel
theorem dX9_is_14 : decode cX9_is 14 = .ok (.ireturn, 1) := by decide +kernel
def bX9_is_0 (l : Launch) (E : Ev) (d : Nat) (Q : Option Value → Hp → Prop) : Kt := k_iload 0 (k_iload 1 (k_ishr (k_push (.int 1) (k_iand (k_push (.int 1) (k_icmp_ne (k_push (.int 0) (k_iret .boolean Q)) (k_push (.int 1) (k_iret .boolean Q))))))))
set_option maxRecDepth 100000 in
set_option maxHeartbeats 4000000 in
theorem gX9_is_0 {l : Launch} {E : Ev} {d : Nat} {Q : Option Value → Hp → Prop} {ls : Lv} {st : List Value} {h : Hp} (hB : bX9_is_0 l E d Q ls st h) : Go l E YX9_is (d + 1) 0 0 Q 0 0 0 ls st h :=
  (sd_iload_n (i := 0) rfl dX9_is_0 (sd_iload_n (i := 1) rfl dX9_is_1 (sd_ishr dX9_is_2 (sd_iconst (v := 1) (by decide) dX9_is_3 (sd_iand dX9_is_4 (sd_iconst (v := 1) (by decide) dX9_is_5 (sd_icmp_ne (tgt := 13) (by decide) dX9_is_6 (sd_iconst (v := 0) (by decide) dX9_is_13 (sd_iret (ty := .boolean) rfl (by decide) (by decide) dX9_is_14)) (sd_iconst (v := 1) (by decide) dX9_is_9 (sd_goto (tgt := 14) (by decide) dX9_is_10 (sd_iret (ty := .boolean) rfl (by decide) (by decide) dX9_is_14))))))))) : Sd l E YX9_is (d + 1) 0 0 Q 0 0 0 (bX9_is_0 l E d Q)) ls st h hB
theorem eX9_is {l : Launch} {E : Ev} {d : Nat} {Q : Option Value → Hp → Prop} {h : Hp} {x1 : Int32} {x2 : Int32} (hk : Go l E YX9_is d 0 0 Q 0 0 0 [some (.int x1), some (.int x2)] [] h) : GoM l E YX9_is d 0 0 [.int x1, .int x2] h Q := GoM.of (by decide +kernel) rfl (by simp [entA, YX9_is]) hk
theorem dX9_bits_0 : decode cX9_bits 0 = .ok (.iconst 0, 1) := by decide +kernel
theorem dX9_bits_1 : decode cX9_bits 1 = .ok (.istore_n 1, 1) := by decide +kernel
theorem dX9_bits_2 : decode cX9_bits 2 = .ok (.iconst 0, 1) := by decide +kernel
theorem dX9_bits_3 : decode cX9_bits 3 = .ok (.istore_n 2, 1) := by decide +kernel
theorem dX9_bits_4 : decode cX9_bits 4 = .ok (.iload_n 2, 1) := by decide +kernel
theorem dX9_bits_5 : decode cX9_bits 5 = .ok (.bipush 8, 2) := by decide +kernel
theorem dX9_bits_7 : decode cX9_bits 7 = .ok (.if_icmp .ge 17, 3) := by decide +kernel
theorem dX9_bits_10 : decode cX9_bits 10 = .ok (.iload_n 1, 1) := by decide +kernel
theorem dX9_bits_11 : decode cX9_bits 11 = .ok (.iload_n 0, 1) := by decide +kernel
theorem dX9_bits_12 : decode cX9_bits 12 = .ok (.iload_n 2, 1) := by decide +kernel
theorem dX9_bits_13 : decode cX9_bits 13 = .ok (.ishr, 1) := by decide +kernel
theorem dX9_bits_14 : decode cX9_bits 14 = .ok (.iconst 1, 1) := by decide +kernel
theorem dX9_bits_15 : decode cX9_bits 15 = .ok (.iand, 1) := by decide +kernel
theorem dX9_bits_16 : decode cX9_bits 16 = .ok (.iadd, 1) := by decide +kernel
theorem dX9_bits_17 : decode cX9_bits 17 = .ok (.istore_n 1, 1) := by decide +kernel
theorem dX9_bits_18 : decode cX9_bits 18 = .ok (.iinc 2 1, 3) := by decide +kernel
theorem dX9_bits_21 : decode cX9_bits 21 = .ok (.goto (-17), 3) := by decide +kernel
theorem dX9_bits_24 : decode cX9_bits 24 = .ok (.iload_n 1, 1) := by decide +kernel
theorem dX9_bits_25 : decode cX9_bits 25 = .ok (.ireturn, 1) := by decide +kernel
def bX9_bits_0 (l : Launch) (E : Ev) (d : Nat) (Q : Option Value → Hp → Prop) : Kt := k_push (.int 0) (k_istore 1 (k_push (.int 0) (k_istore 2 (Go l E YX9_bits (d + 1) 0 0 Q 0 0 4))))
set_option maxRecDepth 100000 in
set_option maxHeartbeats 4000000 in
theorem gX9_bits_0 {l : Launch} {E : Ev} {d : Nat} {Q : Option Value → Hp → Prop} {ls : Lv} {st : List Value} {h : Hp} (hB : bX9_bits_0 l E d Q ls st h) : Go l E YX9_bits (d + 1) 0 0 Q 0 0 0 ls st h :=
  (sd_iconst (v := 0) (by decide) dX9_bits_0 (sd_istore_n (i := 1) rfl (by decide) dX9_bits_1 (sd_iconst (v := 0) (by decide) dX9_bits_2 (sd_istore_n (i := 2) rfl (by decide) dX9_bits_3 (Sd.go)))) : Sd l E YX9_bits (d + 1) 0 0 Q 0 0 0 (bX9_bits_0 l E d Q)) ls st h hB
def bX9_bits_4 (l : Launch) (E : Ev) (d : Nat) (Q : Option Value → Hp → Prop) : Kt := k_iload 2 (k_push (.int 8) (k_icmp_ge (k_iload 1 (k_iret .int Q)) (k_iload 1 (k_iload 0 (k_iload 2 (k_ishr (k_push (.int 1) (k_iand (k_iadd (k_istore 1 (k_iinc 2 1 (Go l E YX9_bits (d + 1) 0 0 Q 0 0 4))))))))))))
set_option maxRecDepth 100000 in
set_option maxHeartbeats 4000000 in
theorem gX9_bits_4 {l : Launch} {E : Ev} {d : Nat} {Q : Option Value → Hp → Prop} {ls : Lv} {st : List Value} {h : Hp} (hB : bX9_bits_4 l E d Q ls st h) : Go l E YX9_bits (d + 1) 0 0 Q 0 0 4 ls st h :=
  (sd_iload_n (i := 2) rfl dX9_bits_4 (sd_bipush (v := 8) (by decide) dX9_bits_5 (sd_icmp_ge (tgt := 24) (by decide) dX9_bits_7 (sd_iload_n (i := 1) rfl dX9_bits_24 (sd_iret (ty := .int) rfl (by decide) (by decide) dX9_bits_25)) (sd_iload_n (i := 1) rfl dX9_bits_10 (sd_iload_n (i := 0) rfl dX9_bits_11 (sd_iload_n (i := 2) rfl dX9_bits_12 (sd_ishr dX9_bits_13 (sd_iconst (v := 1) (by decide) dX9_bits_14 (sd_iand dX9_bits_15 (sd_iadd dX9_bits_16 (sd_istore_n (i := 1) rfl (by decide) dX9_bits_17 (sd_iinc (i := 2) (v := 1) (by decide) (by decide) dX9_bits_18 (sd_goto (tgt := 4) (by decide) dX9_bits_21 (Sd.go))))))))))))) : Sd l E YX9_bits (d + 1) 0 0 Q 0 0 4 (bX9_bits_4 l E d Q)) ls st h hB
theorem eX9_bits {l : Launch} {E : Ev} {d : Nat} {Q : Option Value → Hp → Prop} {h : Hp} {x1 : Int32} (hk : Go l E YX9_bits d 0 0 Q 0 0 0 [some (.int x1), none, none] [] h) : GoM l E YX9_bits d 0 0 [.int x1] h Q := GoM.of (by decide +kernel) rfl (by simp [entA, YX9_bits]) hk
theorem dX9_tell_0 : decode cX9_tell 0 = .ok (.aload_n 0, 1) := by decide +kernel
theorem dX9_tell_1 : decode cX9_tell 1 = .ok (.iload_n 1, 1) := by decide +kernel
theorem dX9_tell_2 : decode cX9_tell 2 = .ok (.ifCond .ge 7, 3) := by decide +kernel
theorem dX9_tell_5 : decode cX9_tell 5 = .ok (.iload_n 1, 1) := by decide +kernel
theorem dX9_tell_6 : decode cX9_tell 6 = .ok (.goto 4, 3) := by decide +kernel
theorem dX9_tell_9 : decode cX9_tell 9 = .ok (.iconst 0, 1) := by decide +kernel
theorem dX9_tell_10 : decode cX9_tell 10 = .ok (.putfield 126, 3) := by decide +kernel
theorem dX9_tell_13 : decode cX9_tell 13 = .ok (.iload_n 1, 1) := by decide +kernel
theorem dX9_tell_14 : decode cX9_tell 14 = .ok (.ifCond .ge 14, 3) := by decide +kernel
theorem dX9_tell_17 : decode cX9_tell 17 = .ok (.aload_n 0, 1) := by decide +kernel
theorem dX9_tell_18 : decode cX9_tell 18 = .ok (.getfield 7, 3) := by decide +kernel
theorem dX9_tell_21 : decode cX9_tell 21 = .ok (.iload_n 1, 1) := by decide +kernel
theorem dX9_tell_22 : decode cX9_tell 22 = .ok (.ineg, 1) := by decide +kernel
theorem dX9_tell_23 : decode cX9_tell 23 = .ok (.dup2, 1) := by decide +kernel
theorem dX9_tell_24 : decode cX9_tell 24 = .ok (.iaload, 1) := by decide +kernel
theorem dX9_tell_25 : decode cX9_tell 25 = .ok (.iconst 1, 1) := by decide +kernel
theorem dX9_tell_26 : decode cX9_tell 26 = .ok (.iadd, 1) := by decide +kernel
theorem dX9_tell_27 : decode cX9_tell 27 = .ok (.iastore, 1) := by decide +kernel
theorem dX9_tell_28 : decode cX9_tell 28 = .ok (.iload_n 1, 1) := by decide +kernel
theorem dX9_tell_29 : decode cX9_tell 29 = .ok (.ireturn, 1) := by decide +kernel
def bX9_tell_0 (l : Launch) (E : Ev) (d : Nat) (Q : Option Value → Hp → Prop) : Kt := k_aload 0 (k_iload 1 (k_if_ge (k_push (.int 0) (Go l E YX9_tell (d + 1) 0 0 Q 0 0 10)) (k_iload 1 (Go l E YX9_tell (d + 1) 0 0 Q 0 0 10))))
set_option maxRecDepth 100000 in
set_option maxHeartbeats 4000000 in
theorem gX9_tell_0 {l : Launch} {E : Ev} {d : Nat} {Q : Option Value → Hp → Prop} {ls : Lv} {st : List Value} {h : Hp} (hB : bX9_tell_0 l E d Q ls st h) : Go l E YX9_tell (d + 1) 0 0 Q 0 0 0 ls st h :=
  (sd_aload_n (i := 0) rfl dX9_tell_0 (sd_iload_n (i := 1) rfl dX9_tell_1 (sd_if_ge (tgt := 9) (by decide) dX9_tell_2 (sd_iconst (v := 0) (by decide) dX9_tell_9 (Sd.go)) (sd_iload_n (i := 1) rfl dX9_tell_5 (sd_goto (tgt := 10) (by decide) dX9_tell_6 (Sd.go))))) : Sd l E YX9_tell (d + 1) 0 0 Q 0 0 0 (bX9_tell_0 l E d Q)) ls st h hB
def bX9_tell_10 (l : Launch) (E : Ev) (d : Nat) (Q : Option Value → Hp → Prop) : Kt := k_putI 9 55 1 (k_iload 1 (k_if_ge (k_iload 1 (k_iret .int Q)) (k_aload 0 (k_getR 9 55 2 (k_iload 1 (k_ineg (k_dup2 (k_iaload (k_push (.int 1) (k_iadd (k_iastore (k_iload 1 (k_iret .int Q)))))))))))))
set_option maxRecDepth 100000 in
set_option maxHeartbeats 4000000 in
theorem gX9_tell_10 {l : Launch} {E : Ev} {d : Nat} {Q : Option Value → Hp → Prop} {ls : Lv} {st : List Value} {h : Hp} (hB : bX9_tell_10 l E d Q ls st h) : Go l E YX9_tell (d + 1) 0 0 Q 0 0 10 ls st h :=
  (sd_putI clsX9 (f := 1) (by decide) (fun _ _ _ => rfl) rfl (Or.inl rfl) mw_1179 dX9_tell_10 (sd_iload_n (i := 1) rfl dX9_tell_13 (sd_if_ge (tgt := 28) (by decide) dX9_tell_14 (sd_iload_n (i := 1) rfl dX9_tell_28 (sd_iret (ty := .int) rfl (by decide) (by decide) dX9_tell_29)) (sd_aload_n (i := 0) rfl dX9_tell_17 (sd_getR clsX9 (f := 2) (by decide) (fun _ _ _ => rfl) mw_1180 dX9_tell_18 (sd_iload_n (i := 1) rfl dX9_tell_21 (sd_ineg dX9_tell_22 (sd_dup2 dX9_tell_23 (sd_iaload dX9_tell_24 (sd_iconst (v := 1) (by decide) dX9_tell_25 (sd_iadd dX9_tell_26 (sd_iastore dX9_tell_27 (sd_iload_n (i := 1) rfl dX9_tell_28 (sd_iret (ty := .int) rfl (by decide) (by decide) dX9_tell_29))))))))))))) : Sd l E YX9_tell (d + 1) 0 0 Q 0 0 10 (bX9_tell_10 l E d Q)) ls st h hB
theorem eX9_tell {l : Launch} {E : Ev} {d : Nat} {Q : Option Value → Hp → Prop} {h : Hp} {a0 : Nat} {x1 : Int32} (hk : Go l E YX9_tell d 0 0 Q 0 0 0 [some (.ref a0), some (.int x1)] [] h) : GoM l E YX9_tell d 0 0 [.ref a0, .int x1] h Q := GoM.of (by decide +kernel) rfl (by simp [entA, YX9_tell]) hk
theorem dX9_was_0 : decode cX9_was 0 = .ok (.aload_n 0, 1) := by decide +kernel
theorem dX9_was_1 : decode cX9_was 1 = .ok (.iconst 0, 1) := by decide +kernel
theorem dX9_was_2 : decode cX9_was 2 = .ok (.putfield 126, 3) := by decide +kernel
theorem dX9_was_5 : decode cX9_was 5 = .ok (.iload_n 1, 1) := by decide +kernel
theorem dX9_was_6 : decode cX9_was 6 = .ok (.ireturn, 1) := by decide +kernel
def bX9_was_0 (l : Launch) (E : Ev) (d : Nat) (Q : Option Value → Hp → Prop) : Kt := k_aload 0 (k_push (.int 0) (k_putI 9 55 1 (k_iload 1 (k_iret .int Q))))
set_option maxRecDepth 100000 in
set_option maxHeartbeats 4000000 in
theorem gX9_was_0 {l : Launch} {E : Ev} {d : Nat} {Q : Option Value → Hp → Prop} {ls : Lv} {st : List Value} {h : Hp} (hB : bX9_was_0 l E d Q ls st h) : Go l E YX9_was (d + 1) 0 0 Q 0 0 0 ls st h :=
  (sd_aload_n (i := 0) rfl dX9_was_0 (sd_iconst (v := 0) (by decide) dX9_was_1 (sd_putI clsX9 (f := 1) (by decide) (fun _ _ _ => rfl) rfl (Or.inl rfl) mw_1179 dX9_was_2 (sd_iload_n (i := 1) rfl dX9_was_5 (sd_iret (ty := .int) rfl (by decide) (by decide) dX9_was_6)))) : Sd l E YX9_was (d + 1) 0 0 Q 0 0 0 (bX9_was_0 l E d Q)) ls st h hB
theorem eX9_was {l : Launch} {E : Ev} {d : Nat} {Q : Option Value → Hp → Prop} {h : Hp} {a0 : Nat} {x1 : Int32} (hk : Go l E YX9_was d 0 0 Q 0 0 0 [some (.ref a0), some (.int x1)] [] h) : GoM l E YX9_was d 0 0 [.ref a0, .int x1] h Q := GoM.of (by decide +kernel) rfl (by simp [entA, YX9_was]) hk
theorem dX9_change_0 : decode cX9_change 0 = .ok (.aload_n 0, 1) := by decide +kernel
theorem dX9_change_1 : decode cX9_change 1 = .ok (.getfield 13, 3) := by decide +kernel
theorem dX9_change_4 : decode cX9_change 4 = .ok (.iload_n 1, 1) := by decide +kernel
theorem dX9_change_5 : decode cX9_change 5 = .ok (.iaload, 1) := by decide +kernel
theorem dX9_change_6 : decode cX9_change 6 = .ok (.istore_n 3, 1) := by decide +kernel
theorem dX9_change_7 : decode cX9_change 7 = .ok (.aload_n 0, 1) := by decide +kernel
theorem dX9_change_8 : decode cX9_change 8 = .ok (.getfield 13, 3) := by decide +kernel
theorem dX9_change_11 : decode cX9_change 11 = .ok (.iload_n 1, 1) := by decide +kernel
theorem dX9_change_12 : decode cX9_change 12 = .ok (.iload_n 2, 1) := by decide +kernel
theorem dX9_change_13 : decode cX9_change 13 = .ok (.iastore, 1) := by decide +kernel
theorem dX9_change_14 : decode cX9_change 14 = .ok (.aload_n 0, 1) := by decide +kernel
theorem dX9_change_15 : decode cX9_change 15 = .ok (.iload_n 3, 1) := by decide +kernel
theorem dX9_change_16 : decode cX9_change 16 = .ok (.invokevirtual 129, 3) := by decide +kernel
theorem dX9_change_19 : decode cX9_change 19 = .ok (.ireturn, 1) := by decide +kernel
def bX9_change_0 (l : Launch) (E : Ev) (d : Nat) (Q : Option Value → Hp → Prop) : Kt := k_aload 0 (k_getR 9 55 3 (k_iload 1 (k_iaload (k_istore 3 (k_aload 0 (k_getR 9 55 3 (k_iload 1 (k_iload 2 (k_iastore (k_aload 0 (k_iload 3 (k_callV l E 9 55 YX9_was d 0 0 1 (k_iret .int Q)))))))))))))
set_option maxRecDepth 100000 in
set_option maxHeartbeats 4000000 in
theorem gX9_change_0 {l : Launch} {E : Ev} {d : Nat} {Q : Option Value → Hp → Prop} {ls : Lv} {st : List Value} {h : Hp} (hB : bX9_change_0 l E d Q ls st h) : Go l E YX9_change (d + 1) 0 0 Q 0 0 0 ls st h :=
  (sd_aload_n (i := 0) rfl dX9_change_0 (sd_getR clsX9 (f := 3) (by decide) (fun _ _ _ => rfl) mw_1181 dX9_change_1 (sd_iload_n (i := 1) rfl dX9_change_4 (sd_iaload dX9_change_5 (sd_istore_n (i := 3) rfl (by decide) dX9_change_6 (sd_aload_n (i := 0) rfl dX9_change_7 (sd_getR clsX9 (f := 3) (by decide) (fun _ _ _ => rfl) mw_1181 dX9_change_8 (sd_iload_n (i := 1) rfl dX9_change_11 (sd_iload_n (i := 2) rfl dX9_change_12 (sd_iastore dX9_change_13 (sd_aload_n (i := 0) rfl dX9_change_14 (sd_iload_n (i := 3) rfl dX9_change_15 (sd_callV (Y' := YX9_was) (mc' := 0) (ms' := 0) (n := 1) clsX9.1 mw_1389 mw_1391 mw_48 mw_108 mw_1392 rfl (okmX9_was) (by decide) (Nat.le_refl _) (by decide) (by decide) dX9_change_16 (sd_iret (ty := .int) rfl (by decide) (by decide) dX9_change_19))))))))))))) : Sd l E YX9_change (d + 1) 0 0 Q 0 0 0 (bX9_change_0 l E d Q)) ls st h hB
theorem eX9_change {l : Launch} {E : Ev} {d : Nat} {Q : Option Value → Hp → Prop} {h : Hp} {a0 : Nat} {x1 : Int32} {x2 : Int32} (hk : Go l E YX9_change d 0 0 Q 0 0 0 [some (.ref a0), some (.int x1), some (.int x2), none] [] h) : GoM l E YX9_change d 0 0 [.ref a0, .int x1, .int x2] h Q := GoM.of (by decide +kernel) rfl (by simp [entA, YX9_change]) hk
theorem dX9_image_0 : decode cX9_image 0 = .ok (.aload_n 0, 1) := by decide +kernel
theorem dX9_image_1 : decode cX9_image 1 = .ok (.iconst 0, 1) := by decide +kernel
theorem dX9_image_2 : decode cX9_image 2 = .ok (.putfield 123, 3) := by decide +kernel
theorem dX9_image_5 : decode cX9_image 5 = .ok (.iload_n 1, 1) := by decide +kernel
theorem dX9_image_6 : decode cX9_image 6 = .ok (.i2l, 1) := by decide +kernel
theorem dX9_image_7 : decode cX9_image 7 = .ok (.lconst 0, 1) := by decide +kernel
theorem dX9_image_8 : decode cX9_image 8 = .ok (.lconst 1, 1) := by decide +kernel
theorem dX9_image_9 : decode cX9_image 9 = .ok (.invokestatic 133, 3) := by decide +kernel
theorem dX9_image_12 : decode cX9_image 12 = .ok (.ifCond .ne 9, 3) := by decide +kernel
theorem dX9_image_15 : decode cX9_image 15 = .ok (.aload_n 0, 1) := by decide +kernel
theorem dX9_image_16 : decode cX9_image 16 = .ok (.iconst (-1), 1) := by decide +kernel
theorem dX9_image_17 : decode cX9_image 17 = .ok (.invokevirtual 137, 3) := by decide +kernel
theorem dX9_image_20 : decode cX9_image 20 = .ok (.ireturn, 1) := by decide +kernel
theorem dX9_image_21 : decode cX9_image 21 = .ok (.iconst 0, 1) := by decide +kernel
theorem dX9_image_22 : decode cX9_image 22 = .ok (.istore_n 2, 1) := by decide +kernel
theorem dX9_image_23 : decode cX9_image 23 = .ok (.iload_n 2, 1) := by decide +kernel
theorem dX9_image_24 : decode cX9_image 24 = .ok (.sipush 5580, 3) := by decide +kernel
theorem dX9_image_27 : decode cX9_image 27 = .ok (.if_icmp .ge 27, 3) := by decide +kernel
theorem dX9_image_30 : decode cX9_image 30 = .ok (.aload_n 0, 1) := by decide +kernel
theorem dX9_image_31 : decode cX9_image 31 = .ok (.getfield 16, 3) := by decide +kernel
theorem dX9_image_34 : decode cX9_image 34 = .ok (.sipush 5580, 3) := by decide +kernel
theorem dX9_image_37 : decode cX9_image 37 = .ok (.iload_n 1, 1) := by decide +kernel
theorem dX9_image_38 : decode cX9_image 38 = .ok (.imul, 1) := by decide +kernel
theorem dX9_image_39 : decode cX9_image 39 = .ok (.iload_n 2, 1) := by decide +kernel
theorem dX9_image_40 : decode cX9_image 40 = .ok (.iadd, 1) := by decide +kernel
theorem dX9_image_41 : decode cX9_image 41 = .ok (.aload_n 0, 1) := by decide +kernel
theorem dX9_image_42 : decode cX9_image 42 = .ok (.getfield 13, 3) := by decide +kernel
theorem dX9_image_45 : decode cX9_image 45 = .ok (.iload_n 2, 1) := by decide +kernel
theorem dX9_image_46 : decode cX9_image 46 = .ok (.iaload, 1) := by decide +kernel
theorem dX9_image_47 : decode cX9_image 47 = .ok (.iastore, 1) := by decide +kernel
theorem dX9_image_48 : decode cX9_image 48 = .ok (.iinc 2 1, 3) := by decide +kernel
theorem dX9_image_51 : decode cX9_image 51 = .ok (.goto (-28), 3) := by decide +kernel
theorem dX9_image_54 : decode cX9_image 54 = .ok (.aload_n 0, 1) := by decide +kernel
theorem dX9_image_55 : decode cX9_image 55 = .ok (.getfield 19, 3) := by decide +kernel
theorem dX9_image_58 : decode cX9_image 58 = .ok (.iload_n 1, 1) := by decide +kernel
theorem dX9_image_59 : decode cX9_image 59 = .ok (.iconst 1, 1) := by decide +kernel
theorem dX9_image_60 : decode cX9_image 60 = .ok (.bastore, 1) := by decide +kernel
theorem dX9_image_61 : decode cX9_image 61 = .ok (.aload_n 0, 1) := by decide +kernel
theorem dX9_image_62 : decode cX9_image 62 = .ok (.iconst 0, 1) := by decide +kernel
theorem dX9_image_63 : decode cX9_image 63 = .ok (.invokevirtual 137, 3) := by decide +kernel
theorem dX9_image_66 : decode cX9_image 66 = .ok (.ireturn, 1) := by decide +kernel
def bX9_image_0 (l : Launch) (E : Ev) (d : Nat) (Q : Option Value → Hp → Prop) : Kt := k_aload 0 (k_push (.int 0) (k_putI 9 55 0 (k_iload 1 (k_i2l (k_push (.long 0) (k_push (.long 1) (k_callS l E YX9_in d 0 0 3 (k_if_ne (k_push (.int 0) (k_istore 2 (Go l E YX9_image (d + 1) 0 0 Q 0 0 23))) (k_aload 0 (k_push (.int (-1)) (k_callV l E 9 55 YX9_tell d 0 0 1 (k_iret .int Q))))))))))))
set_option maxRecDepth 100000 in
set_option maxHeartbeats 4000000 in
theorem gX9_image_0 {l : Launch} {E : Ev} {d : Nat} {Q : Option Value → Hp → Prop} {ls : Lv} {st : List Value} {h : Hp} (hB : bX9_image_0 l E d Q ls st h) : Go l E YX9_image (d + 1) 0 0 Q 0 0 0 ls st h :=
  (sd_aload_n (i := 0) rfl dX9_image_0 (sd_iconst (v := 0) (by decide) dX9_image_1 (sd_putI clsX9 (f := 0) (by decide) (fun _ _ _ => rfl) rfl (Or.inl rfl) mw_1178 dX9_image_2 (sd_iload_n (i := 1) rfl dX9_image_5 (sd_i2l dX9_image_6 (sd_lconst (v := 0) (by decide) dX9_image_7 (sd_lconst (v := 1) (by decide) dX9_image_8 (sd_callS (Y' := YX9_in) (mc' := 0) (ms' := 0) (n := 3) mw_1348 mw_1349 mw_108 mw_1350 (okmX9_in) (by decide) (Nat.le_refl _) (by decide) (by decide) dX9_image_9 (sd_if_ne (tgt := 21) (by decide) dX9_image_12 (sd_iconst (v := 0) (by decide) dX9_image_21 (sd_istore_n (i := 2) rfl (by decide) dX9_image_22 (Sd.go))) (sd_aload_n (i := 0) rfl dX9_image_15 (sd_iconst (v := (-1)) (by decide) dX9_image_16 (sd_callV (Y' := YX9_tell) (mc' := 0) (ms' := 0) (n := 1) clsX9.1 mw_1351 mw_1353 mw_45 mw_108 mw_1354 rfl (okmX9_tell) (by decide) (Nat.le_refl _) (by decide) (by decide) dX9_image_17 (sd_iret (ty := .int) rfl (by decide) (by decide) dX9_image_20)))))))))))) : Sd l E YX9_image (d + 1) 0 0 Q 0 0 0 (bX9_image_0 l E d Q)) ls st h hB
def bX9_image_23 (l : Launch) (E : Ev) (d : Nat) (Q : Option Value → Hp → Prop) : Kt := k_iload 2 (k_push (.int 5580) (k_icmp_ge (k_aload 0 (k_getR 9 55 5 (k_iload 1 (k_push (.int 1) (k_zastore (k_aload 0 (k_push (.int 0) (k_callV l E 9 55 YX9_tell d 0 0 1 (k_iret .int Q))))))))) (k_aload 0 (k_getR 9 55 4 (k_push (.int 5580) (k_iload 1 (k_imul (k_iload 2 (k_iadd (k_aload 0 (k_getR 9 55 3 (k_iload 2 (k_iaload (k_iastore (k_iinc 2 1 (Go l E YX9_image (d + 1) 0 0 Q 0 0 23))))))))))))))))
set_option maxRecDepth 100000 in
set_option maxHeartbeats 4000000 in
theorem gX9_image_23 {l : Launch} {E : Ev} {d : Nat} {Q : Option Value → Hp → Prop} {ls : Lv} {st : List Value} {h : Hp} (hB : bX9_image_23 l E d Q ls st h) : Go l E YX9_image (d + 1) 0 0 Q 0 0 23 ls st h :=
  (sd_iload_n (i := 2) rfl dX9_image_23 (sd_sipush (v := 5580) (by decide) dX9_image_24 (sd_icmp_ge (tgt := 54) (by decide) dX9_image_27 (sd_aload_n (i := 0) rfl dX9_image_54 (sd_getR clsX9 (f := 5) (by decide) (fun _ _ _ => rfl) mw_1183 dX9_image_55 (sd_iload_n (i := 1) rfl dX9_image_58 (sd_iconst (v := 1) (by decide) dX9_image_59 (sd_zastore dX9_image_60 (sd_aload_n (i := 0) rfl dX9_image_61 (sd_iconst (v := 0) (by decide) dX9_image_62 (sd_callV (Y' := YX9_tell) (mc' := 0) (ms' := 0) (n := 1) clsX9.1 mw_1351 mw_1353 mw_45 mw_108 mw_1354 rfl (okmX9_tell) (by decide) (Nat.le_refl _) (by decide) (by decide) dX9_image_63 (sd_iret (ty := .int) rfl (by decide) (by decide) dX9_image_66))))))))) (sd_aload_n (i := 0) rfl dX9_image_30 (sd_getR clsX9 (f := 4) (by decide) (fun _ _ _ => rfl) mw_1182 dX9_image_31 (sd_sipush (v := 5580) (by decide) dX9_image_34 (sd_iload_n (i := 1) rfl dX9_image_37 (sd_imul dX9_image_38 (sd_iload_n (i := 2) rfl dX9_image_39 (sd_iadd dX9_image_40 (sd_aload_n (i := 0) rfl dX9_image_41 (sd_getR clsX9 (f := 3) (by decide) (fun _ _ _ => rfl) mw_1181 dX9_image_42 (sd_iload_n (i := 2) rfl dX9_image_45 (sd_iaload dX9_image_46 (sd_iastore dX9_image_47 (sd_iinc (i := 2) (v := 1) (by decide) (by decide) dX9_image_48 (sd_goto (tgt := 23) (by decide) dX9_image_51 (Sd.go))))))))))))))))) : Sd l E YX9_image (d + 1) 0 0 Q 0 0 23 (bX9_image_23 l E d Q)) ls st h hB
theorem eX9_image {l : Launch} {E : Ev} {d : Nat} {Q : Option Value → Hp → Prop} {h : Hp} {a0 : Nat} {x1 : Int32} (hk : Go l E YX9_image d 0 0 Q 0 0 0 [some (.ref a0), some (.int x1), none] [] h) : GoM l E YX9_image d 0 0 [.ref a0, .int x1] h Q := GoM.of (by decide +kernel) rfl (by simp [entA, YX9_image]) hk
theorem dX9_back_0 : decode cX9_back 0 = .ok (.aload_n 0, 1) := by decide +kernel
theorem dX9_back_1 : decode cX9_back 1 = .ok (.iconst 0, 1) := by decide +kernel
theorem dX9_back_2 : decode cX9_back 2 = .ok (.putfield 123, 3) := by decide +kernel
theorem dX9_back_5 : decode cX9_back 5 = .ok (.iload_n 1, 1) := by decide +kernel
theorem dX9_back_6 : decode cX9_back 6 = .ok (.i2l, 1) := by decide +kernel
theorem dX9_back_7 : decode cX9_back 7 = .ok (.lconst 0, 1) := by decide +kernel
theorem dX9_back_8 : decode cX9_back 8 = .ok (.lconst 1, 1) := by decide +kernel
theorem dX9_back_9 : decode cX9_back 9 = .ok (.invokestatic 133, 3) := by decide +kernel
theorem dX9_back_12 : decode cX9_back 12 = .ok (.ifCond .ne 9, 3) := by decide +kernel
theorem dX9_back_15 : decode cX9_back 15 = .ok (.aload_n 0, 1) := by decide +kernel
theorem dX9_back_16 : decode cX9_back 16 = .ok (.iconst (-1), 1) := by decide +kernel
theorem dX9_back_17 : decode cX9_back 17 = .ok (.invokevirtual 137, 3) := by decide +kernel
theorem dX9_back_20 : decode cX9_back 20 = .ok (.ireturn, 1) := by decide +kernel
theorem dX9_back_21 : decode cX9_back 21 = .ok (.aload_n 0, 1) := by decide +kernel
theorem dX9_back_22 : decode cX9_back 22 = .ok (.getfield 19, 3) := by decide +kernel
theorem dX9_back_25 : decode cX9_back 25 = .ok (.iload_n 1, 1) := by decide +kernel
theorem dX9_back_26 : decode cX9_back 26 = .ok (.baload, 1) := by decide +kernel
theorem dX9_back_27 : decode cX9_back 27 = .ok (.ifCond .ne 10, 3) := by decide +kernel
theorem dX9_back_30 : decode cX9_back 30 = .ok (.aload_n 0, 1) := by decide +kernel
theorem dX9_back_31 : decode cX9_back 31 = .ok (.bipush (-2), 2) := by decide +kernel
theorem dX9_back_33 : decode cX9_back 33 = .ok (.invokevirtual 137, 3) := by decide +kernel
theorem dX9_back_36 : decode cX9_back 36 = .ok (.ireturn, 1) := by decide +kernel
theorem dX9_back_37 : decode cX9_back 37 = .ok (.iconst 0, 1) := by decide +kernel
theorem dX9_back_38 : decode cX9_back 38 = .ok (.istore_n 2, 1) := by decide +kernel
theorem dX9_back_39 : decode cX9_back 39 = .ok (.iload_n 2, 1) := by decide +kernel
theorem dX9_back_40 : decode cX9_back 40 = .ok (.sipush 5580, 3) := by decide +kernel
theorem dX9_back_43 : decode cX9_back 43 = .ok (.if_icmp .ge 27, 3) := by decide +kernel
theorem dX9_back_46 : decode cX9_back 46 = .ok (.aload_n 0, 1) := by decide +kernel
theorem dX9_back_47 : decode cX9_back 47 = .ok (.getfield 13, 3) := by decide +kernel
theorem dX9_back_50 : decode cX9_back 50 = .ok (.iload_n 2, 1) := by decide +kernel
theorem dX9_back_51 : decode cX9_back 51 = .ok (.aload_n 0, 1) := by decide +kernel
theorem dX9_back_52 : decode cX9_back 52 = .ok (.getfield 16, 3) := by decide +kernel
theorem dX9_back_55 : decode cX9_back 55 = .ok (.sipush 5580, 3) := by decide +kernel
theorem dX9_back_58 : decode cX9_back 58 = .ok (.iload_n 1, 1) := by decide +kernel
theorem dX9_back_59 : decode cX9_back 59 = .ok (.imul, 1) := by decide +kernel
theorem dX9_back_60 : decode cX9_back 60 = .ok (.iload_n 2, 1) := by decide +kernel
theorem dX9_back_61 : decode cX9_back 61 = .ok (.iadd, 1) := by decide +kernel
theorem dX9_back_62 : decode cX9_back 62 = .ok (.iaload, 1) := by decide +kernel
theorem dX9_back_63 : decode cX9_back 63 = .ok (.iastore, 1) := by decide +kernel
theorem dX9_back_64 : decode cX9_back 64 = .ok (.iinc 2 1, 3) := by decide +kernel
theorem dX9_back_67 : decode cX9_back 67 = .ok (.goto (-28), 3) := by decide +kernel
theorem dX9_back_70 : decode cX9_back 70 = .ok (.aload_n 0, 1) := by decide +kernel
theorem dX9_back_71 : decode cX9_back 71 = .ok (.iconst 0, 1) := by decide +kernel
theorem dX9_back_72 : decode cX9_back 72 = .ok (.invokevirtual 137, 3) := by decide +kernel
theorem dX9_back_75 : decode cX9_back 75 = .ok (.ireturn, 1) := by decide +kernel
def bX9_back_0 (l : Launch) (E : Ev) (d : Nat) (Q : Option Value → Hp → Prop) : Kt := k_aload 0 (k_push (.int 0) (k_putI 9 55 0 (k_iload 1 (k_i2l (k_push (.long 0) (k_push (.long 1) (k_callS l E YX9_in d 0 0 3 (k_if_ne (k_aload 0 (k_getR 9 55 5 (k_iload 1 (k_zaload (k_if_ne (k_push (.int 0) (k_istore 2 (Go l E YX9_back (d + 1) 0 0 Q 0 0 39))) (k_aload 0 (k_push (.int (-2)) (k_callV l E 9 55 YX9_tell d 0 0 1 (k_iret .int Q))))))))) (k_aload 0 (k_push (.int (-1)) (k_callV l E 9 55 YX9_tell d 0 0 1 (k_iret .int Q))))))))))))
set_option maxRecDepth 100000 in
set_option maxHeartbeats 4000000 in
theorem gX9_back_0 {l : Launch} {E : Ev} {d : Nat} {Q : Option Value → Hp → Prop} {ls : Lv} {st : List Value} {h : Hp} (hB : bX9_back_0 l E d Q ls st h) : Go l E YX9_back (d + 1) 0 0 Q 0 0 0 ls st h :=
  (sd_aload_n (i := 0) rfl dX9_back_0 (sd_iconst (v := 0) (by decide) dX9_back_1 (sd_putI clsX9 (f := 0) (by decide) (fun _ _ _ => rfl) rfl (Or.inl rfl) mw_1178 dX9_back_2 (sd_iload_n (i := 1) rfl dX9_back_5 (sd_i2l dX9_back_6 (sd_lconst (v := 0) (by decide) dX9_back_7 (sd_lconst (v := 1) (by decide) dX9_back_8 (sd_callS (Y' := YX9_in) (mc' := 0) (ms' := 0) (n := 3) mw_1348 mw_1349 mw_108 mw_1350 (okmX9_in) (by decide) (Nat.le_refl _) (by decide) (by decide) dX9_back_9 (sd_if_ne (tgt := 21) (by decide) dX9_back_12 (sd_aload_n (i := 0) rfl dX9_back_21 (sd_getR clsX9 (f := 5) (by decide) (fun _ _ _ => rfl) mw_1183 dX9_back_22 (sd_iload_n (i := 1) rfl dX9_back_25 (sd_zaload dX9_back_26 (sd_if_ne (tgt := 37) (by decide) dX9_back_27 (sd_iconst (v := 0) (by decide) dX9_back_37 (sd_istore_n (i := 2) rfl (by decide) dX9_back_38 (Sd.go))) (sd_aload_n (i := 0) rfl dX9_back_30 (sd_bipush (v := (-2)) (by decide) dX9_back_31 (sd_callV (Y' := YX9_tell) (mc' := 0) (ms' := 0) (n := 1) clsX9.1 mw_1351 mw_1353 mw_45 mw_108 mw_1354 rfl (okmX9_tell) (by decide) (Nat.le_refl _) (by decide) (by decide) dX9_back_33 (sd_iret (ty := .int) rfl (by decide) (by decide) dX9_back_36))))))))) (sd_aload_n (i := 0) rfl dX9_back_15 (sd_iconst (v := (-1)) (by decide) dX9_back_16 (sd_callV (Y' := YX9_tell) (mc' := 0) (ms' := 0) (n := 1) clsX9.1 mw_1351 mw_1353 mw_45 mw_108 mw_1354 rfl (okmX9_tell) (by decide) (Nat.le_refl _) (by decide) (by decide) dX9_back_17 (sd_iret (ty := .int) rfl (by decide) (by decide) dX9_back_20)))))))))))) : Sd l E YX9_back (d + 1) 0 0 Q 0 0 0 (bX9_back_0 l E d Q)) ls st h hB
def bX9_back_39 (l : Launch) (E : Ev) (d : Nat) (Q : Option Value → Hp → Prop) : Kt := k_iload 2 (k_push (.int 5580) (k_icmp_ge (k_aload 0 (k_push (.int 0) (k_callV l E 9 55 YX9_tell d 0 0 1 (k_iret .int Q)))) (k_aload 0 (k_getR 9 55 3 (k_iload 2 (k_aload 0 (k_getR 9 55 4 (k_push (.int 5580) (k_iload 1 (k_imul (k_iload 2 (k_iadd (k_iaload (k_iastore (k_iinc 2 1 (Go l E YX9_back (d + 1) 0 0 Q 0 0 39))))))))))))))))
set_option maxRecDepth 100000 in
set_option maxHeartbeats 4000000 in
theorem gX9_back_39 {l : Launch} {E : Ev} {d : Nat} {Q : Option Value → Hp → Prop} {ls : Lv} {st : List Value} {h : Hp} (hB : bX9_back_39 l E d Q ls st h) : Go l E YX9_back (d + 1) 0 0 Q 0 0 39 ls st h :=
  (sd_iload_n (i := 2) rfl dX9_back_39 (sd_sipush (v := 5580) (by decide) dX9_back_40 (sd_icmp_ge (tgt := 70) (by decide) dX9_back_43 (sd_aload_n (i := 0) rfl dX9_back_70 (sd_iconst (v := 0) (by decide) dX9_back_71 (sd_callV (Y' := YX9_tell) (mc' := 0) (ms' := 0) (n := 1) clsX9.1 mw_1351 mw_1353 mw_45 mw_108 mw_1354 rfl (okmX9_tell) (by decide) (Nat.le_refl _) (by decide) (by decide) dX9_back_72 (sd_iret (ty := .int) rfl (by decide) (by decide) dX9_back_75)))) (sd_aload_n (i := 0) rfl dX9_back_46 (sd_getR clsX9 (f := 3) (by decide) (fun _ _ _ => rfl) mw_1181 dX9_back_47 (sd_iload_n (i := 2) rfl dX9_back_50 (sd_aload_n (i := 0) rfl dX9_back_51 (sd_getR clsX9 (f := 4) (by decide) (fun _ _ _ => rfl) mw_1182 dX9_back_52 (sd_sipush (v := 5580) (by decide) dX9_back_55 (sd_iload_n (i := 1) rfl dX9_back_58 (sd_imul dX9_back_59 (sd_iload_n (i := 2) rfl dX9_back_60 (sd_iadd dX9_back_61 (sd_iaload dX9_back_62 (sd_iastore dX9_back_63 (sd_iinc (i := 2) (v := 1) (by decide) (by decide) dX9_back_64 (sd_goto (tgt := 39) (by decide) dX9_back_67 (Sd.go))))))))))))))))) : Sd l E YX9_back (d + 1) 0 0 Q 0 0 39 (bX9_back_39 l E d Q)) ls st h hB
theorem eX9_back {l : Launch} {E : Ev} {d : Nat} {Q : Option Value → Hp → Prop} {h : Hp} {a0 : Nat} {x1 : Int32} (hk : Go l E YX9_back d 0 0 Q 0 0 0 [some (.ref a0), some (.int x1), none] [] h) : GoM l E YX9_back d 0 0 [.ref a0, .int x1] h Q := GoM.of (by decide +kernel) rfl (by simp [entA, YX9_back]) hk
theorem dX9_isActor_0 : decode cX9_isActor 0 = .ok (.iload_n 1, 1) := by decide +kernel
theorem dX9_isActor_1 : decode cX9_isActor 1 = .ok (.i2l, 1) := by decide +kernel
theorem dX9_isActor_2 : decode cX9_isActor 2 = .ok (.lconst 0, 1) := by decide +kernel
theorem dX9_isActor_3 : decode cX9_isActor 3 = .ok (.aload_n 0, 1) := by decide +kernel
theorem dX9_isActor_4 : decode cX9_isActor 4 = .ok (.getfield 13, 3) := by decide +kernel
theorem dX9_isActor_7 : decode cX9_isActor 7 = .ok (.iconst 0, 1) := by decide +kernel
theorem dX9_isActor_8 : decode cX9_isActor 8 = .ok (.iaload, 1) := by decide +kernel
theorem dX9_isActor_9 : decode cX9_isActor 9 = .ok (.i2l, 1) := by decide +kernel
theorem dX9_isActor_10 : decode cX9_isActor 10 = .ok (.lconst 1, 1) := by decide +kernel
theorem dX9_isActor_11 : decode cX9_isActor 11 = .ok (.lsub, 1) := by decide +kernel
theorem dX9_isActor_12 : decode cX9_isActor 12 = .ok (.invokestatic 133, 3) := by decide +kernel
theorem dX9_isActor_15 : decode cX9_isActor 15 = .ok (.ireturn, 1) := by decide +kernel
def bX9_isActor_0 (l : Launch) (E : Ev) (d : Nat) (Q : Option Value → Hp → Prop) : Kt := k_iload 1 (k_i2l (k_push (.long 0) (k_aload 0 (k_getR 9 55 3 (k_push (.int 0) (k_iaload (k_i2l (k_push (.long 1) (k_lsub (k_callS l E YX9_in d 0 0 3 (k_iret .boolean Q)))))))))))
set_option maxRecDepth 100000 in
set_option maxHeartbeats 4000000 in
theorem gX9_isActor_0 {l : Launch} {E : Ev} {d : Nat} {Q : Option Value → Hp → Prop} {ls : Lv} {st : List Value} {h : Hp} (hB : bX9_isActor_0 l E d Q ls st h) : Go l E YX9_isActor (d + 1) 0 0 Q 0 0 0 ls st h :=
  (sd_iload_n (i := 1) rfl dX9_isActor_0 (sd_i2l dX9_isActor_1 (sd_lconst (v := 0) (by decide) dX9_isActor_2 (sd_aload_n (i := 0) rfl dX9_isActor_3 (sd_getR clsX9 (f := 3) (by decide) (fun _ _ _ => rfl) mw_1181 dX9_isActor_4 (sd_iconst (v := 0) (by decide) dX9_isActor_7 (sd_iaload dX9_isActor_8 (sd_i2l dX9_isActor_9 (sd_lconst (v := 1) (by decide) dX9_isActor_10 (sd_lsub dX9_isActor_11 (sd_callS (Y' := YX9_in) (mc' := 0) (ms' := 0) (n := 3) mw_1348 mw_1349 mw_108 mw_1350 (okmX9_in) (by decide) (Nat.le_refl _) (by decide) (by decide) dX9_isActor_12 (sd_iret (ty := .boolean) rfl (by decide) (by decide) dX9_isActor_15))))))))))) : Sd l E YX9_isActor (d + 1) 0 0 Q 0 0 0 (bX9_isActor_0 l E d Q)) ls st h hB
theorem eX9_isActor {l : Launch} {E : Ev} {d : Nat} {Q : Option Value → Hp → Prop} {h : Hp} {a0 : Nat} {x1 : Int32} (hk : Go l E YX9_isActor d 0 0 Q 0 0 0 [some (.ref a0), some (.int x1)] [] h) : GoM l E YX9_isActor d 0 0 [.ref a0, .int x1] h Q := GoM.of (by decide +kernel) rfl (by simp [entA, YX9_isActor]) hk
theorem dX9_isPart_0 : decode cX9_isPart 0 = .ok (.iload_n 1, 1) := by decide +kernel
theorem dX9_isPart_1 : decode cX9_isPart 1 = .ok (.i2l, 1) := by decide +kernel
theorem dX9_isPart_2 : decode cX9_isPart 2 = .ok (.lconst 0, 1) := by decide +kernel
theorem dX9_isPart_3 : decode cX9_isPart 3 = .ok (.aload_n 0, 1) := by decide +kernel
theorem dX9_isPart_4 : decode cX9_isPart 4 = .ok (.getfield 13, 3) := by decide +kernel
theorem dX9_isPart_7 : decode cX9_isPart 7 = .ok (.iconst 1, 1) := by decide +kernel
theorem dX9_isPart_8 : decode cX9_isPart 8 = .ok (.iaload, 1) := by decide +kernel
theorem dX9_isPart_9 : decode cX9_isPart 9 = .ok (.i2l, 1) := by decide +kernel
theorem dX9_isPart_10 : decode cX9_isPart 10 = .ok (.lconst 1, 1) := by decide +kernel
theorem dX9_isPart_11 : decode cX9_isPart 11 = .ok (.lsub, 1) := by decide +kernel
theorem dX9_isPart_12 : decode cX9_isPart 12 = .ok (.invokestatic 133, 3) := by decide +kernel
theorem dX9_isPart_15 : decode cX9_isPart 15 = .ok (.ireturn, 1) := by decide +kernel
def bX9_isPart_0 (l : Launch) (E : Ev) (d : Nat) (Q : Option Value → Hp → Prop) : Kt := k_iload 1 (k_i2l (k_push (.long 0) (k_aload 0 (k_getR 9 55 3 (k_push (.int 1) (k_iaload (k_i2l (k_push (.long 1) (k_lsub (k_callS l E YX9_in d 0 0 3 (k_iret .boolean Q)))))))))))
set_option maxRecDepth 100000 in
set_option maxHeartbeats 4000000 in
theorem gX9_isPart_0 {l : Launch} {E : Ev} {d : Nat} {Q : Option Value → Hp → Prop} {ls : Lv} {st : List Value} {h : Hp} (hB : bX9_isPart_0 l E d Q ls st h) : Go l E YX9_isPart (d + 1) 0 0 Q 0 0 0 ls st h :=
  (sd_iload_n (i := 1) rfl dX9_isPart_0 (sd_i2l dX9_isPart_1 (sd_lconst (v := 0) (by decide) dX9_isPart_2 (sd_aload_n (i := 0) rfl dX9_isPart_3 (sd_getR clsX9 (f := 3) (by decide) (fun _ _ _ => rfl) mw_1181 dX9_isPart_4 (sd_iconst (v := 1) (by decide) dX9_isPart_7 (sd_iaload dX9_isPart_8 (sd_i2l dX9_isPart_9 (sd_lconst (v := 1) (by decide) dX9_isPart_10 (sd_lsub dX9_isPart_11 (sd_callS (Y' := YX9_in) (mc' := 0) (ms' := 0) (n := 3) mw_1348 mw_1349 mw_108 mw_1350 (okmX9_in) (by decide) (Nat.le_refl _) (by decide) (by decide) dX9_isPart_12 (sd_iret (ty := .boolean) rfl (by decide) (by decide) dX9_isPart_15))))))))))) : Sd l E YX9_isPart (d + 1) 0 0 Q 0 0 0 (bX9_isPart_0 l E d Q)) ls st h hB
theorem eX9_isPart {l : Launch} {E : Ev} {d : Nat} {Q : Option Value → Hp → Prop} {h : Hp} {a0 : Nat} {x1 : Int32} (hk : Go l E YX9_isPart d 0 0 Q 0 0 0 [some (.ref a0), some (.int x1)] [] h) : GoM l E YX9_isPart d 0 0 [.ref a0, .int x1] h Q := GoM.of (by decide +kernel) rfl (by simp [entA, YX9_isPart]) hk
theorem dX9_areActors_0 : decode cX9_areActors 0 = .ok (.iload_n 1, 1) := by decide +kernel
theorem dX9_areActors_1 : decode cX9_areActors 1 = .ok (.i2l, 1) := by decide +kernel
theorem dX9_areActors_2 : decode cX9_areActors 2 = .ok (.lconst 0, 1) := by decide +kernel
theorem dX9_areActors_3 : decode cX9_areActors 3 = .ok (.iconst 1, 1) := by decide +kernel
theorem dX9_areActors_4 : decode cX9_areActors 4 = .ok (.aload_n 0, 1) := by decide +kernel
theorem dX9_areActors_5 : decode cX9_areActors 5 = .ok (.getfield 13, 3) := by decide +kernel
theorem dX9_areActors_8 : decode cX9_areActors 8 = .ok (.iconst 0, 1) := by decide +kernel
theorem dX9_areActors_9 : decode cX9_areActors 9 = .ok (.iaload, 1) := by decide +kernel
theorem dX9_areActors_10 : decode cX9_areActors 10 = .ok (.ishl, 1) := by decide +kernel
theorem dX9_areActors_11 : decode cX9_areActors 11 = .ok (.i2l, 1) := by decide +kernel
theorem dX9_areActors_12 : decode cX9_areActors 12 = .ok (.lconst 1, 1) := by decide +kernel
theorem dX9_areActors_13 : decode cX9_areActors 13 = .ok (.lsub, 1) := by decide +kernel
theorem dX9_areActors_14 : decode cX9_areActors 14 = .ok (.invokestatic 133, 3) := by decide +kernel
theorem dX9_areActors_17 : decode cX9_areActors 17 = .ok (.ireturn, 1) := by decide +kernel
def bX9_areActors_0 (l : Launch) (E : Ev) (d : Nat) (Q : Option Value → Hp → Prop) : Kt := k_iload 1 (k_i2l (k_push (.long 0) (k_push (.int 1) (k_aload 0 (k_getR 9 55 3 (k_push (.int 0) (k_iaload (k_ishl (k_i2l (k_push (.long 1) (k_lsub (k_callS l E YX9_in d 0 0 3 (k_iret .boolean Q)))))))))))))
set_option maxRecDepth 100000 in
set_option maxHeartbeats 4000000 in
theorem gX9_areActors_0 {l : Launch} {E : Ev} {d : Nat} {Q : Option Value → Hp → Prop} {ls : Lv} {st : List Value} {h : Hp} (hB : bX9_areActors_0 l E d Q ls st h) : Go l E YX9_areActors (d + 1) 0 0 Q 0 0 0 ls st h :=
  (sd_iload_n (i := 1) rfl dX9_areActors_0 (sd_i2l dX9_areActors_1 (sd_lconst (v := 0) (by decide) dX9_areActors_2 (sd_iconst (v := 1) (by decide) dX9_areActors_3 (sd_aload_n (i := 0) rfl dX9_areActors_4 (sd_getR clsX9 (f := 3) (by decide) (fun _ _ _ => rfl) mw_1181 dX9_areActors_5 (sd_iconst (v := 0) (by decide) dX9_areActors_8 (sd_iaload dX9_areActors_9 (sd_ishl dX9_areActors_10 (sd_i2l dX9_areActors_11 (sd_lconst (v := 1) (by decide) dX9_areActors_12 (sd_lsub dX9_areActors_13 (sd_callS (Y' := YX9_in) (mc' := 0) (ms' := 0) (n := 3) mw_1348 mw_1349 mw_108 mw_1350 (okmX9_in) (by decide) (Nat.le_refl _) (by decide) (by decide) dX9_areActors_14 (sd_iret (ty := .boolean) rfl (by decide) (by decide) dX9_areActors_17))))))))))))) : Sd l E YX9_areActors (d + 1) 0 0 Q 0 0 0 (bX9_areActors_0 l E d Q)) ls st h hB
theorem eX9_areActors {l : Launch} {E : Ev} {d : Nat} {Q : Option Value → Hp → Prop} {h : Hp} {a0 : Nat} {x1 : Int32} (hk : Go l E YX9_areActors d 0 0 Q 0 0 0 [some (.ref a0), some (.int x1)] [] h) : GoM l E YX9_areActors d 0 0 [.ref a0, .int x1] h Q := GoM.of (by decide +kernel) rfl (by simp [entA, YX9_areActors]) hk
theorem dX9_fitsActor_0 : decode cX9_fitsActor 0 = .ok (.iload_n 0, 1) := by decide +kernel
theorem dX9_fitsActor_1 : decode cX9_fitsActor 1 = .ok (.tableswitch 73 0 3 #[31, 43, 53, 63], 31) := by decide +kernel
theorem dX9_fitsActor_32 : decode cX9_fitsActor 32 = .ok (.iload_n 1, 1) := by decide +kernel
theorem dX9_fitsActor_33 : decode cX9_fitsActor 33 = .ok (.i2l, 1) := by decide +kernel
theorem dX9_fitsActor_34 : decode cX9_fitsActor 34 = .ok (.ldc2_w 140, 3) := by decide +kernel
theorem dX9_fitsActor_37 : decode cX9_fitsActor 37 = .ok (.ldc2_w 142, 3) := by decide +kernel
theorem dX9_fitsActor_40 : decode cX9_fitsActor 40 = .ok (.invokestatic 133, 3) := by decide +kernel
theorem dX9_fitsActor_43 : decode cX9_fitsActor 43 = .ok (.ireturn, 1) := by decide +kernel
theorem dX9_fitsActor_44 : decode cX9_fitsActor 44 = .ok (.iload_n 1, 1) := by decide +kernel
theorem dX9_fitsActor_45 : decode cX9_fitsActor 45 = .ok (.i2l, 1) := by decide +kernel
theorem dX9_fitsActor_46 : decode cX9_fitsActor 46 = .ok (.lconst 0, 1) := by decide +kernel
theorem dX9_fitsActor_47 : decode cX9_fitsActor 47 = .ok (.ldc2_w 144, 3) := by decide +kernel
theorem dX9_fitsActor_50 : decode cX9_fitsActor 50 = .ok (.invokestatic 133, 3) := by decide +kernel
theorem dX9_fitsActor_53 : decode cX9_fitsActor 53 = .ok (.ireturn, 1) := by decide +kernel
theorem dX9_fitsActor_54 : decode cX9_fitsActor 54 = .ok (.iload_n 1, 1) := by decide +kernel
theorem dX9_fitsActor_55 : decode cX9_fitsActor 55 = .ok (.i2l, 1) := by decide +kernel
theorem dX9_fitsActor_56 : decode cX9_fitsActor 56 = .ok (.lconst 0, 1) := by decide +kernel
theorem dX9_fitsActor_57 : decode cX9_fitsActor 57 = .ok (.ldc2_w 144, 3) := by decide +kernel
theorem dX9_fitsActor_60 : decode cX9_fitsActor 60 = .ok (.invokestatic 133, 3) := by decide +kernel
theorem dX9_fitsActor_63 : decode cX9_fitsActor 63 = .ok (.ireturn, 1) := by decide +kernel
theorem dX9_fitsActor_64 : decode cX9_fitsActor 64 = .ok (.iload_n 1, 1) := by decide +kernel
theorem dX9_fitsActor_65 : decode cX9_fitsActor 65 = .ok (.i2l, 1) := by decide +kernel
theorem dX9_fitsActor_66 : decode cX9_fitsActor 66 = .ok (.lconst 0, 1) := by decide +kernel
theorem dX9_fitsActor_67 : decode cX9_fitsActor 67 = .ok (.ldc2_w 140, 3) := by decide +kernel
theorem dX9_fitsActor_70 : decode cX9_fitsActor 70 = .ok (.invokestatic 133, 3) := by decide +kernel
theorem dX9_fitsActor_73 : decode cX9_fitsActor 73 = .ok (.ireturn, 1) := by decide +kernel
theorem dX9_fitsActor_74 : decode cX9_fitsActor 74 = .ok (.iconst 0, 1) := by decide +kernel
theorem dX9_fitsActor_75 : decode cX9_fitsActor 75 = .ok (.ireturn, 1) := by decide +kernel
def bX9_fitsActor_0 (l : Launch) (E : Ev) (d : Nat) (Q : Option Value → Hp → Prop) : Kt := k_iload 0 (k_sw [(0, (k_iload 1 (k_i2l (k_push (.long 100) (k_push (.long 220) (k_callS l E YX9_in d 0 0 3 (k_iret .boolean Q))))))), (1, (k_iload 1 (k_i2l (k_push (.long 0) (k_push (.long 9) (k_callS l E YX9_in d 0 0 3 (k_iret .boolean Q))))))), (2, (k_iload 1 (k_i2l (k_push (.long 0) (k_push (.long 9) (k_callS l E YX9_in d 0 0 3 (k_iret .boolean Q))))))), (3, (k_iload 1 (k_i2l (k_push (.long 0) (k_push (.long 100) (k_callS l E YX9_in d 0 0 3 (k_iret .boolean Q)))))))] (k_push (.int 0) (k_iret .boolean Q)))
set_option maxRecDepth 100000 in
set_option maxHeartbeats 4000000 in
theorem gX9_fitsActor_0 {l : Launch} {E : Ev} {d : Nat} {Q : Option Value → Hp → Prop} {ls : Lv} {st : List Value} {h : Hp} (hB : bX9_fitsActor_0 l E d Q ls st h) : Go l E YX9_fitsActor (d + 1) 0 0 Q 0 0 0 ls st h :=
  (sd_iload_n (i := 0) rfl dX9_fitsActor_0 (sd_table dX9_fitsActor_1 (dt := 74) (by decide) (sd_iconst (v := 0) (by decide) dX9_fitsActor_74 (sd_iret (ty := .boolean) rfl (by decide) (by decide) dX9_fitsActor_75)) rfl (tb_all (tb_cons (off := 31) (tgt := 32) (by decide) rfl (by decide) (sd_iload_n (i := 1) rfl dX9_fitsActor_32 (sd_i2l dX9_fitsActor_33 (sd_ldc2 (v := 100) mw_1366 dX9_fitsActor_34 (sd_ldc2 (v := 220) mw_1367 dX9_fitsActor_37 (sd_callS (Y' := YX9_in) (mc' := 0) (ms' := 0) (n := 3) mw_1348 mw_1349 mw_108 mw_1350 (okmX9_in) (by decide) (Nat.le_refl _) (by decide) (by decide) dX9_fitsActor_40 (sd_iret (ty := .boolean) rfl (by decide) (by decide) dX9_fitsActor_43)))))) (tb_cons (off := 43) (tgt := 44) (by decide) rfl (by decide) (sd_iload_n (i := 1) rfl dX9_fitsActor_44 (sd_i2l dX9_fitsActor_45 (sd_lconst (v := 0) (by decide) dX9_fitsActor_46 (sd_ldc2 (v := 9) mw_1368 dX9_fitsActor_47 (sd_callS (Y' := YX9_in) (mc' := 0) (ms' := 0) (n := 3) mw_1348 mw_1349 mw_108 mw_1350 (okmX9_in) (by decide) (Nat.le_refl _) (by decide) (by decide) dX9_fitsActor_50 (sd_iret (ty := .boolean) rfl (by decide) (by decide) dX9_fitsActor_53)))))) (tb_cons (off := 53) (tgt := 54) (by decide) rfl (by decide) (sd_iload_n (i := 1) rfl dX9_fitsActor_54 (sd_i2l dX9_fitsActor_55 (sd_lconst (v := 0) (by decide) dX9_fitsActor_56 (sd_ldc2 (v := 9) mw_1368 dX9_fitsActor_57 (sd_callS (Y' := YX9_in) (mc' := 0) (ms' := 0) (n := 3) mw_1348 mw_1349 mw_108 mw_1350 (okmX9_in) (by decide) (Nat.le_refl _) (by decide) (by decide) dX9_fitsActor_60 (sd_iret (ty := .boolean) rfl (by decide) (by decide) dX9_fitsActor_63)))))) (tb_cons (off := 63) (tgt := 64) (by decide) rfl (by decide) (sd_iload_n (i := 1) rfl dX9_fitsActor_64 (sd_i2l dX9_fitsActor_65 (sd_lconst (v := 0) (by decide) dX9_fitsActor_66 (sd_ldc2 (v := 100) mw_1366 dX9_fitsActor_67 (sd_callS (Y' := YX9_in) (mc' := 0) (ms' := 0) (n := 3) mw_1348 mw_1349 mw_108 mw_1350 (okmX9_in) (by decide) (Nat.le_refl _) (by decide) (by decide) dX9_fitsActor_70 (sd_iret (ty := .boolean) rfl (by decide) (by decide) dX9_fitsActor_73)))))) (tb_nil))))))) : Sd l E YX9_fitsActor (d + 1) 0 0 Q 0 0 0 (bX9_fitsActor_0 l E d Q)) ls st h hB
theorem eX9_fitsActor {l : Launch} {E : Ev} {d : Nat} {Q : Option Value → Hp → Prop} {h : Hp} {x1 : Int32} {x2 : Int32} (hk : Go l E YX9_fitsActor d 0 0 Q 0 0 0 [some (.int x1), some (.int x2)] [] h) : GoM l E YX9_fitsActor d 0 0 [.int x1, .int x2] h Q := GoM.of (by decide +kernel) rfl (by simp [entA, YX9_fitsActor]) hk
theorem dX9_fitsPart_0 : decode cX9_fitsPart 0 = .ok (.iload_n 0, 1) := by decide +kernel
theorem dX9_fitsPart_1 : decode cX9_fitsPart 1 = .ok (.tableswitch 57 0 2 #[27, 37, 47], 27) := by decide +kernel
theorem dX9_fitsPart_28 : decode cX9_fitsPart 28 = .ok (.iload_n 1, 1) := by decide +kernel
theorem dX9_fitsPart_29 : decode cX9_fitsPart 29 = .ok (.i2l, 1) := by decide +kernel
theorem dX9_fitsPart_30 : decode cX9_fitsPart 30 = .ok (.lconst 0, 1) := by decide +kernel
theorem dX9_fitsPart_31 : decode cX9_fitsPart 31 = .ok (.ldc2_w 144, 3) := by decide +kernel
theorem dX9_fitsPart_34 : decode cX9_fitsPart 34 = .ok (.invokestatic 133, 3) := by decide +kernel
theorem dX9_fitsPart_37 : decode cX9_fitsPart 37 = .ok (.ireturn, 1) := by decide +kernel
theorem dX9_fitsPart_38 : decode cX9_fitsPart 38 = .ok (.iload_n 1, 1) := by decide +kernel
theorem dX9_fitsPart_39 : decode cX9_fitsPart 39 = .ok (.i2l, 1) := by decide +kernel
theorem dX9_fitsPart_40 : decode cX9_fitsPart 40 = .ok (.lconst 0, 1) := by decide +kernel
theorem dX9_fitsPart_41 : decode cX9_fitsPart 41 = .ok (.ldc2_w 144, 3) := by decide +kernel
theorem dX9_fitsPart_44 : decode cX9_fitsPart 44 = .ok (.invokestatic 133, 3) := by decide +kernel
theorem dX9_fitsPart_47 : decode cX9_fitsPart 47 = .ok (.ireturn, 1) := by decide +kernel
theorem dX9_fitsPart_48 : decode cX9_fitsPart 48 = .ok (.iload_n 1, 1) := by decide +kernel
theorem dX9_fitsPart_49 : decode cX9_fitsPart 49 = .ok (.i2l, 1) := by decide +kernel
theorem dX9_fitsPart_50 : decode cX9_fitsPart 50 = .ok (.lconst 0, 1) := by decide +kernel
theorem dX9_fitsPart_51 : decode cX9_fitsPart 51 = .ok (.ldc2_w 146, 3) := by decide +kernel
theorem dX9_fitsPart_54 : decode cX9_fitsPart 54 = .ok (.invokestatic 133, 3) := by decide +kernel
theorem dX9_fitsPart_57 : decode cX9_fitsPart 57 = .ok (.ireturn, 1) := by decide +kernel
theorem dX9_fitsPart_58 : decode cX9_fitsPart 58 = .ok (.iconst 0, 1) := by decide +kernel
theorem dX9_fitsPart_59 : decode cX9_fitsPart 59 = .ok (.ireturn, 1) := by decide +kernel
def bX9_fitsPart_0 (l : Launch) (E : Ev) (d : Nat) (Q : Option Value → Hp → Prop) : Kt := k_iload 0 (k_sw [(0, (k_iload 1 (k_i2l (k_push (.long 0) (k_push (.long 9) (k_callS l E YX9_in d 0 0 3 (k_iret .boolean Q))))))), (1, (k_iload 1 (k_i2l (k_push (.long 0) (k_push (.long 9) (k_callS l E YX9_in d 0 0 3 (k_iret .boolean Q))))))), (2, (k_iload 1 (k_i2l (k_push (.long 0) (k_push (.long 255) (k_callS l E YX9_in d 0 0 3 (k_iret .boolean Q)))))))] (k_push (.int 0) (k_iret .boolean Q)))
set_option maxRecDepth 100000 in
set_option maxHeartbeats 4000000 in
theorem gX9_fitsPart_0 {l : Launch} {E : Ev} {d : Nat} {Q : Option Value → Hp → Prop} {ls : Lv} {st : List Value} {h : Hp} (hB : bX9_fitsPart_0 l E d Q ls st h) : Go l E YX9_fitsPart (d + 1) 0 0 Q 0 0 0 ls st h :=
  (sd_iload_n (i := 0) rfl dX9_fitsPart_0 (sd_table dX9_fitsPart_1 (dt := 58) (by decide) (sd_iconst (v := 0) (by decide) dX9_fitsPart_58 (sd_iret (ty := .boolean) rfl (by decide) (by decide) dX9_fitsPart_59)) rfl (tb_all (tb_cons (off := 27) (tgt := 28) (by decide) rfl (by decide) (sd_iload_n (i := 1) rfl dX9_fitsPart_28 (sd_i2l dX9_fitsPart_29 (sd_lconst (v := 0) (by decide) dX9_fitsPart_30 (sd_ldc2 (v := 9) mw_1368 dX9_fitsPart_31 (sd_callS (Y' := YX9_in) (mc' := 0) (ms' := 0) (n := 3) mw_1348 mw_1349 mw_108 mw_1350 (okmX9_in) (by decide) (Nat.le_refl _) (by decide) (by decide) dX9_fitsPart_34 (sd_iret (ty := .boolean) rfl (by decide) (by decide) dX9_fitsPart_37)))))) (tb_cons (off := 37) (tgt := 38) (by decide) rfl (by decide) (sd_iload_n (i := 1) rfl dX9_fitsPart_38 (sd_i2l dX9_fitsPart_39 (sd_lconst (v := 0) (by decide) dX9_fitsPart_40 (sd_ldc2 (v := 9) mw_1368 dX9_fitsPart_41 (sd_callS (Y' := YX9_in) (mc' := 0) (ms' := 0) (n := 3) mw_1348 mw_1349 mw_108 mw_1350 (okmX9_in) (by decide) (Nat.le_refl _) (by decide) (by decide) dX9_fitsPart_44 (sd_iret (ty := .boolean) rfl (by decide) (by decide) dX9_fitsPart_47)))))) (tb_cons (off := 47) (tgt := 48) (by decide) rfl (by decide) (sd_iload_n (i := 1) rfl dX9_fitsPart_48 (sd_i2l dX9_fitsPart_49 (sd_lconst (v := 0) (by decide) dX9_fitsPart_50 (sd_ldc2 (v := 255) mw_1376 dX9_fitsPart_51 (sd_callS (Y' := YX9_in) (mc' := 0) (ms' := 0) (n := 3) mw_1348 mw_1349 mw_108 mw_1350 (okmX9_in) (by decide) (Nat.le_refl _) (by decide) (by decide) dX9_fitsPart_54 (sd_iret (ty := .boolean) rfl (by decide) (by decide) dX9_fitsPart_57)))))) (tb_nil)))))) : Sd l E YX9_fitsPart (d + 1) 0 0 Q 0 0 0 (bX9_fitsPart_0 l E d Q)) ls st h hB
theorem eX9_fitsPart {l : Launch} {E : Ev} {d : Nat} {Q : Option Value → Hp → Prop} {h : Hp} {x1 : Int32} {x2 : Int32} (hk : Go l E YX9_fitsPart d 0 0 Q 0 0 0 [some (.int x1), some (.int x2)] [] h) : GoM l E YX9_fitsPart d 0 0 [.int x1, .int x2] h Q := GoM.of (by decide +kernel) rfl (by simp [entA, YX9_fitsPart]) hk
theorem dX9_actor_0 : decode cX9_actor 0 = .ok (.aload_n 0, 1) := by decide +kernel
theorem dX9_actor_1 : decode cX9_actor 1 = .ok (.iconst 0, 1) := by decide +kernel
theorem dX9_actor_2 : decode cX9_actor 2 = .ok (.putfield 123, 3) := by decide +kernel
theorem dX9_actor_5 : decode cX9_actor 5 = .ok (.iconst 0, 1) := by decide +kernel
theorem dX9_actor_6 : decode cX9_actor 6 = .ok (.iload_n 1, 1) := by decide +kernel
theorem dX9_actor_7 : decode cX9_actor 7 = .ok (.invokestatic 148, 3) := by decide +kernel
theorem dX9_actor_10 : decode cX9_actor 10 = .ok (.ifCond .eq 28, 3) := by decide +kernel
theorem dX9_actor_13 : decode cX9_actor 13 = .ok (.iconst 1, 1) := by decide +kernel
theorem dX9_actor_14 : decode cX9_actor 14 = .ok (.iload_n 2, 1) := by decide +kernel
theorem dX9_actor_15 : decode cX9_actor 15 = .ok (.invokestatic 148, 3) := by decide +kernel
theorem dX9_actor_18 : decode cX9_actor 18 = .ok (.ifCond .eq 20, 3) := by decide +kernel
theorem dX9_actor_21 : decode cX9_actor 21 = .ok (.iconst 2, 1) := by decide +kernel
theorem dX9_actor_22 : decode cX9_actor 22 = .ok (.iload_n 3, 1) := by decide +kernel
theorem dX9_actor_23 : decode cX9_actor 23 = .ok (.invokestatic 148, 3) := by decide +kernel
theorem dX9_actor_26 : decode cX9_actor 26 = .ok (.ifCond .eq 12, 3) := by decide +kernel
theorem dX9_actor_29 : decode cX9_actor 29 = .ok (.iconst 3, 1) := by decide +kernel
theorem dX9_actor_30 : decode cX9_actor 30 = .ok (.iload 4, 2) := by decide +kernel
theorem dX9_actor_32 : decode cX9_actor 32 = .ok (.invokestatic 148, 3) := by decide +kernel
theorem dX9_actor_35 : decode cX9_actor 35 = .ok (.ifCond .ne 9, 3) := by decide +kernel
theorem dX9_actor_38 : decode cX9_actor 38 = .ok (.aload_n 0, 1) := by decide +kernel
theorem dX9_actor_39 : decode cX9_actor 39 = .ok (.iconst (-1), 1) := by decide +kernel
theorem dX9_actor_40 : decode cX9_actor 40 = .ok (.invokevirtual 137, 3) := by decide +kernel
theorem dX9_actor_43 : decode cX9_actor 43 = .ok (.ireturn, 1) := by decide +kernel
theorem dX9_actor_44 : decode cX9_actor 44 = .ok (.aload_n 0, 1) := by decide +kernel
theorem dX9_actor_45 : decode cX9_actor 45 = .ok (.getfield 13, 3) := by decide +kernel
theorem dX9_actor_48 : decode cX9_actor 48 = .ok (.iconst 0, 1) := by decide +kernel
theorem dX9_actor_49 : decode cX9_actor 49 = .ok (.iaload, 1) := by decide +kernel
theorem dX9_actor_50 : decode cX9_actor 50 = .ok (.istore 5, 2) := by decide +kernel
theorem dX9_actor_52 : decode cX9_actor 52 = .ok (.iload 5, 2) := by decide +kernel
theorem dX9_actor_54 : decode cX9_actor 54 = .ok (.bipush 8, 2) := by decide +kernel
theorem dX9_actor_56 : decode cX9_actor 56 = .ok (.if_icmp .ne 10, 3) := by decide +kernel
theorem dX9_actor_59 : decode cX9_actor 59 = .ok (.aload_n 0, 1) := by decide +kernel
theorem dX9_actor_60 : decode cX9_actor 60 = .ok (.bipush (-5), 2) := by decide +kernel
theorem dX9_actor_62 : decode cX9_actor 62 = .ok (.invokevirtual 137, 3) := by decide +kernel
theorem dX9_actor_65 : decode cX9_actor 65 = .ok (.ireturn, 1) := by decide +kernel
theorem dX9_actor_66 : decode cX9_actor 66 = .ok (.aload_n 0, 1) := by decide +kernel
theorem dX9_actor_67 : decode cX9_actor 67 = .ok (.getfield 13, 3) := by decide +kernel
theorem dX9_actor_70 : decode cX9_actor 70 = .ok (.bipush 10, 2) := by decide +kernel
theorem dX9_actor_72 : decode cX9_actor 72 = .ok (.iconst 4, 1) := by decide +kernel
theorem dX9_actor_73 : decode cX9_actor 73 = .ok (.iload 5, 2) := by decide +kernel
theorem dX9_actor_75 : decode cX9_actor 75 = .ok (.imul, 1) := by decide +kernel
theorem dX9_actor_76 : decode cX9_actor 76 = .ok (.iadd, 1) := by decide +kernel
theorem dX9_actor_77 : decode cX9_actor 77 = .ok (.iload_n 1, 1) := by decide +kernel
theorem dX9_actor_78 : decode cX9_actor 78 = .ok (.iastore, 1) := by decide +kernel
theorem dX9_actor_79 : decode cX9_actor 79 = .ok (.aload_n 0, 1) := by decide +kernel
theorem dX9_actor_80 : decode cX9_actor 80 = .ok (.getfield 13, 3) := by decide +kernel
theorem dX9_actor_83 : decode cX9_actor 83 = .ok (.bipush 10, 2) := by decide +kernel
theorem dX9_actor_85 : decode cX9_actor 85 = .ok (.iconst 4, 1) := by decide +kernel
theorem dX9_actor_86 : decode cX9_actor 86 = .ok (.iload 5, 2) := by decide +kernel
theorem dX9_actor_88 : decode cX9_actor 88 = .ok (.imul, 1) := by decide +kernel
theorem dX9_actor_89 : decode cX9_actor 89 = .ok (.iadd, 1) := by decide +kernel
theorem dX9_actor_90 : decode cX9_actor 90 = .ok (.iconst 1, 1) := by decide +kernel
theorem dX9_actor_91 : decode cX9_actor 91 = .ok (.iadd, 1) := by decide +kernel
theorem dX9_actor_92 : decode cX9_actor 92 = .ok (.iload_n 2, 1) := by decide +kernel
theorem dX9_actor_93 : decode cX9_actor 93 = .ok (.iastore, 1) := by decide +kernel
theorem dX9_actor_94 : decode cX9_actor 94 = .ok (.aload_n 0, 1) := by decide +kernel
theorem dX9_actor_95 : decode cX9_actor 95 = .ok (.getfield 13, 3) := by decide +kernel
theorem dX9_actor_98 : decode cX9_actor 98 = .ok (.bipush 10, 2) := by decide +kernel
theorem dX9_actor_100 : decode cX9_actor 100 = .ok (.iconst 4, 1) := by decide +kernel
theorem dX9_actor_101 : decode cX9_actor 101 = .ok (.iload 5, 2) := by decide +kernel
theorem dX9_actor_103 : decode cX9_actor 103 = .ok (.imul, 1) := by decide +kernel
theorem dX9_actor_104 : decode cX9_actor 104 = .ok (.iadd, 1) := by decide +kernel
theorem dX9_actor_105 : decode cX9_actor 105 = .ok (.iconst 2, 1) := by decide +kernel
theorem dX9_actor_106 : decode cX9_actor 106 = .ok (.iadd, 1) := by decide +kernel
theorem dX9_actor_107 : decode cX9_actor 107 = .ok (.iload_n 3, 1) := by decide +kernel
theorem dX9_actor_108 : decode cX9_actor 108 = .ok (.iastore, 1) := by decide +kernel
theorem dX9_actor_109 : decode cX9_actor 109 = .ok (.aload_n 0, 1) := by decide +kernel
theorem dX9_actor_110 : decode cX9_actor 110 = .ok (.getfield 13, 3) := by decide +kernel
theorem dX9_actor_113 : decode cX9_actor 113 = .ok (.bipush 10, 2) := by decide +kernel
theorem dX9_actor_115 : decode cX9_actor 115 = .ok (.iconst 4, 1) := by decide +kernel
theorem dX9_actor_116 : decode cX9_actor 116 = .ok (.iload 5, 2) := by decide +kernel
theorem dX9_actor_118 : decode cX9_actor 118 = .ok (.imul, 1) := by decide +kernel
theorem dX9_actor_119 : decode cX9_actor 119 = .ok (.iadd, 1) := by decide +kernel
theorem dX9_actor_120 : decode cX9_actor 120 = .ok (.iconst 3, 1) := by decide +kernel
theorem dX9_actor_121 : decode cX9_actor 121 = .ok (.iadd, 1) := by decide +kernel
theorem dX9_actor_122 : decode cX9_actor 122 = .ok (.iload 4, 2) := by decide +kernel
theorem dX9_actor_124 : decode cX9_actor 124 = .ok (.iastore, 1) := by decide +kernel
theorem dX9_actor_125 : decode cX9_actor 125 = .ok (.aload_n 0, 1) := by decide +kernel
theorem dX9_actor_126 : decode cX9_actor 126 = .ok (.getfield 13, 3) := by decide +kernel
theorem dX9_actor_129 : decode cX9_actor 129 = .ok (.iconst 0, 1) := by decide +kernel
theorem dX9_actor_130 : decode cX9_actor 130 = .ok (.dup2, 1) := by decide +kernel
theorem dX9_actor_131 : decode cX9_actor 131 = .ok (.iaload, 1) := by decide +kernel
theorem dX9_actor_132 : decode cX9_actor 132 = .ok (.iconst 1, 1) := by decide +kernel
theorem dX9_actor_133 : decode cX9_actor 133 = .ok (.iadd, 1) := by decide +kernel
theorem dX9_actor_134 : decode cX9_actor 134 = .ok (.iastore, 1) := by decide +kernel
theorem dX9_actor_135 : decode cX9_actor 135 = .ok (.aload_n 0, 1) := by decide +kernel
theorem dX9_actor_136 : decode cX9_actor 136 = .ok (.iload 5, 2) := by decide +kernel
theorem dX9_actor_138 : decode cX9_actor 138 = .ok (.invokevirtual 137, 3) := by decide +kernel
theorem dX9_actor_141 : decode cX9_actor 141 = .ok (.ireturn, 1) := by decide +kernel
def bX9_actor_0 (l : Launch) (E : Ev) (d : Nat) (Q : Option Value → Hp → Prop) : Kt := k_aload 0 (k_push (.int 0) (k_putI 9 55 0 (k_push (.int 0) (k_iload 1 (k_callS l E YX9_fitsActor d 0 0 2 (k_if_eq (Go l E YX9_actor (d + 1) 0 0 Q 0 0 38) (k_push (.int 1) (k_iload 2 (k_callS l E YX9_fitsActor d 0 0 2 (k_if_eq (Go l E YX9_actor (d + 1) 0 0 Q 0 0 38) (k_push (.int 2) (k_iload 3 (k_callS l E YX9_fitsActor d 0 0 2 (k_if_eq (Go l E YX9_actor (d + 1) 0 0 Q 0 0 38) (k_push (.int 3) (k_iload 4 (k_callS l E YX9_fitsActor d 0 0 2 (k_if_ne (k_aload 0 (k_getR 9 55 3 (k_push (.int 0) (k_iaload (k_istore 5 (k_iload 5 (k_push (.int 8) (k_icmp_ne (k_aload 0 (k_getR 9 55 3 (k_push (.int 10) (k_push (.int 4) (k_iload 5 (k_imul (k_iadd (k_iload 1 (k_iastore (k_aload 0 (k_getR 9 55 3 (k_push (.int 10) (k_push (.int 4) (k_iload 5 (k_imul (k_iadd (k_push (.int 1) (k_iadd (k_iload 2 (k_iastore (k_aload 0 (k_getR 9 55 3 (k_push (.int 10) (k_push (.int 4) (k_iload 5 (k_imul (k_iadd (k_push (.int 2) (k_iadd (k_iload 3 (k_iastore (k_aload 0 (k_getR 9 55 3 (k_push (.int 10) (k_push (.int 4) (k_iload 5 (k_imul (k_iadd (k_push (.int 3) (k_iadd (k_iload 4 (k_iastore (k_aload 0 (k_getR 9 55 3 (k_push (.int 0) (k_dup2 (k_iaload (k_push (.int 1) (k_iadd (k_iastore (k_aload 0 (k_iload 5 (k_callV l E 9 55 YX9_tell d 0 0 1 (k_iret .int Q)))))))))))))))))))))))))))))))))))))))))))))))))))))) (k_aload 0 (k_push (.int (-5)) (k_callV l E 9 55 YX9_tell d 0 0 1 (k_iret .int Q)))))))))))) (Go l E YX9_actor (d + 1) 0 0 Q 0 0 38)))))))))))))))))))
set_option maxRecDepth 100000 in
set_option maxHeartbeats 4000000 in
theorem gX9_actor_0 {l : Launch} {E : Ev} {d : Nat} {Q : Option Value → Hp → Prop} {ls : Lv} {st : List Value} {h : Hp} (hB : bX9_actor_0 l E d Q ls st h) : Go l E YX9_actor (d + 1) 0 0 Q 0 0 0 ls st h :=
  (sd_aload_n (i := 0) rfl dX9_actor_0 (sd_iconst (v := 0) (by decide) dX9_actor_1 (sd_putI clsX9 (f := 0) (by decide) (fun _ _ _ => rfl) rfl (Or.inl rfl) mw_1178 dX9_actor_2 (sd_iconst (v := 0) (by decide) dX9_actor_5 (sd_iload_n (i := 1) rfl dX9_actor_6 (sd_callS (Y' := YX9_fitsActor) (mc' := 0) (ms' := 0) (n := 2) mw_1363 mw_1364 mw_108 mw_1365 (okmX9_fitsActor) (by decide) (Nat.le_refl _) (by decide) (by decide) dX9_actor_7 (sd_if_eq (tgt := 38) (by decide) dX9_actor_10 (Sd.go) (sd_iconst (v := 1) (by decide) dX9_actor_13 (sd_iload_n (i := 2) rfl dX9_actor_14 (sd_callS (Y' := YX9_fitsActor) (mc' := 0) (ms' := 0) (n := 2) mw_1363 mw_1364 mw_108 mw_1365 (okmX9_fitsActor) (by decide) (Nat.le_refl _) (by decide) (by decide) dX9_actor_15 (sd_if_eq (tgt := 38) (by decide) dX9_actor_18 (Sd.go) (sd_iconst (v := 2) (by decide) dX9_actor_21 (sd_iload_n (i := 3) rfl dX9_actor_22 (sd_callS (Y' := YX9_fitsActor) (mc' := 0) (ms' := 0) (n := 2) mw_1363 mw_1364 mw_108 mw_1365 (okmX9_fitsActor) (by decide) (Nat.le_refl _) (by decide) (by decide) dX9_actor_23 (sd_if_eq (tgt := 38) (by decide) dX9_actor_26 (Sd.go) (sd_iconst (v := 3) (by decide) dX9_actor_29 (sd_iload (n := 4) dX9_actor_30 (sd_callS (Y' := YX9_fitsActor) (mc' := 0) (ms' := 0) (n := 2) mw_1363 mw_1364 mw_108 mw_1365 (okmX9_fitsActor) (by decide) (Nat.le_refl _) (by decide) (by decide) dX9_actor_32 (sd_if_ne (tgt := 44) (by decide) dX9_actor_35 (sd_aload_n (i := 0) rfl dX9_actor_44 (sd_getR clsX9 (f := 3) (by decide) (fun _ _ _ => rfl) mw_1181 dX9_actor_45 (sd_iconst (v := 0) (by decide) dX9_actor_48 (sd_iaload dX9_actor_49 (sd_istore (i := 5) (by decide) dX9_actor_50 (sd_iload (n := 5) dX9_actor_52 (sd_bipush (v := 8) (by decide) dX9_actor_54 (sd_icmp_ne (tgt := 66) (by decide) dX9_actor_56 (sd_aload_n (i := 0) rfl dX9_actor_66 (sd_getR clsX9 (f := 3) (by decide) (fun _ _ _ => rfl) mw_1181 dX9_actor_67 (sd_bipush (v := 10) (by decide) dX9_actor_70 (sd_iconst (v := 4) (by decide) dX9_actor_72 (sd_iload (n := 5) dX9_actor_73 (sd_imul dX9_actor_75 (sd_iadd dX9_actor_76 (sd_iload_n (i := 1) rfl dX9_actor_77 (sd_iastore dX9_actor_78 (sd_aload_n (i := 0) rfl dX9_actor_79 (sd_getR clsX9 (f := 3) (by decide) (fun _ _ _ => rfl) mw_1181 dX9_actor_80 (sd_bipush (v := 10) (by decide) dX9_actor_83 (sd_iconst (v := 4) (by decide) dX9_actor_85 (sd_iload (n := 5) dX9_actor_86 (sd_imul dX9_actor_88 (sd_iadd dX9_actor_89 (sd_iconst (v := 1) (by decide) dX9_actor_90 (sd_iadd dX9_actor_91 (sd_iload_n (i := 2) rfl dX9_actor_92 (sd_iastore dX9_actor_93 (sd_aload_n (i := 0) rfl dX9_actor_94 (sd_getR clsX9 (f := 3) (by decide) (fun _ _ _ => rfl) mw_1181 dX9_actor_95 (sd_bipush (v := 10) (by decide) dX9_actor_98 (sd_iconst (v := 4) (by decide) dX9_actor_100 (sd_iload (n := 5) dX9_actor_101 (sd_imul dX9_actor_103 (sd_iadd dX9_actor_104 (sd_iconst (v := 2) (by decide) dX9_actor_105 (sd_iadd dX9_actor_106 (sd_iload_n (i := 3) rfl dX9_actor_107 (sd_iastore dX9_actor_108 (sd_aload_n (i := 0) rfl dX9_actor_109 (sd_getR clsX9 (f := 3) (by decide) (fun _ _ _ => rfl) mw_1181 dX9_actor_110 (sd_bipush (v := 10) (by decide) dX9_actor_113 (sd_iconst (v := 4) (by decide) dX9_actor_115 (sd_iload (n := 5) dX9_actor_116 (sd_imul dX9_actor_118 (sd_iadd dX9_actor_119 (sd_iconst (v := 3) (by decide) dX9_actor_120 (sd_iadd dX9_actor_121 (sd_iload (n := 4) dX9_actor_122 (sd_iastore dX9_actor_124 (sd_aload_n (i := 0) rfl dX9_actor_125 (sd_getR clsX9 (f := 3) (by decide) (fun _ _ _ => rfl) mw_1181 dX9_actor_126 (sd_iconst (v := 0) (by decide) dX9_actor_129 (sd_dup2 dX9_actor_130 (sd_iaload dX9_actor_131 (sd_iconst (v := 1) (by decide) dX9_actor_132 (sd_iadd dX9_actor_133 (sd_iastore dX9_actor_134 (sd_aload_n (i := 0) rfl dX9_actor_135 (sd_iload (n := 5) dX9_actor_136 (sd_callV (Y' := YX9_tell) (mc' := 0) (ms' := 0) (n := 1) clsX9.1 mw_1351 mw_1353 mw_45 mw_108 mw_1354 rfl (okmX9_tell) (by decide) (Nat.le_refl _) (by decide) (by decide) dX9_actor_138 (sd_iret (ty := .int) rfl (by decide) (by decide) dX9_actor_141)))))))))))))))))))))))))))))))))))))))))))))))))))))) (sd_aload_n (i := 0) rfl dX9_actor_59 (sd_bipush (v := (-5)) (by decide) dX9_actor_60 (sd_callV (Y' := YX9_tell) (mc' := 0) (ms' := 0) (n := 1) clsX9.1 mw_1351 mw_1353 mw_45 mw_108 mw_1354 rfl (okmX9_tell) (by decide) (Nat.le_refl _) (by decide) (by decide) dX9_actor_62 (sd_iret (ty := .int) rfl (by decide) (by decide) dX9_actor_65)))))))))))) (Sd.go))))))))))))))))))) : Sd l E YX9_actor (d + 1) 0 0 Q 0 0 0 (bX9_actor_0 l E d Q)) ls st h hB
def bX9_actor_38 (l : Launch) (E : Ev) (d : Nat) (Q : Option Value → Hp → Prop) : Kt := k_aload 0 (k_push (.int (-1)) (k_callV l E 9 55 YX9_tell d 0 0 1 (k_iret .int Q)))
set_option maxRecDepth 100000 in
set_option maxHeartbeats 4000000 in
theorem gX9_actor_38 {l : Launch} {E : Ev} {d : Nat} {Q : Option Value → Hp → Prop} {ls : Lv} {st : List Value} {h : Hp} (hB : bX9_actor_38 l E d Q ls st h) : Go l E YX9_actor (d + 1) 0 0 Q 0 0 38 ls st h :=
  (sd_aload_n (i := 0) rfl dX9_actor_38 (sd_iconst (v := (-1)) (by decide) dX9_actor_39 (sd_callV (Y' := YX9_tell) (mc' := 0) (ms' := 0) (n := 1) clsX9.1 mw_1351 mw_1353 mw_45 mw_108 mw_1354 rfl (okmX9_tell) (by decide) (Nat.le_refl _) (by decide) (by decide) dX9_actor_40 (sd_iret (ty := .int) rfl (by decide) (by decide) dX9_actor_43))) : Sd l E YX9_actor (d + 1) 0 0 Q 0 0 38 (bX9_actor_38 l E d Q)) ls st h hB
theorem eX9_actor {l : Launch} {E : Ev} {d : Nat} {Q : Option Value → Hp → Prop} {h : Hp} {a0 : Nat} {x1 : Int32} {x2 : Int32} {x3 : Int32} {x4 : Int32} (hk : Go l E YX9_actor d 0 0 Q 0 0 0 [some (.ref a0), some (.int x1), some (.int x2), some (.int x3), some (.int x4), none] [] h) : GoM l E YX9_actor d 0 0 [.ref a0, .int x1, .int x2, .int x3, .int x4] h Q := GoM.of (by decide +kernel) rfl (by simp [entA, YX9_actor]) hk
theorem dX9_part_0 : decode cX9_part 0 = .ok (.aload_n 0, 1) := by decide +kernel
theorem dX9_part_1 : decode cX9_part 1 = .ok (.iconst 0, 1) := by decide +kernel
theorem dX9_part_2 : decode cX9_part 2 = .ok (.putfield 123, 3) := by decide +kernel
theorem dX9_part_5 : decode cX9_part 5 = .ok (.iconst 0, 1) := by decide +kernel
theorem dX9_part_6 : decode cX9_part 6 = .ok (.iload_n 1, 1) := by decide +kernel
theorem dX9_part_7 : decode cX9_part 7 = .ok (.invokestatic 152, 3) := by decide +kernel
theorem dX9_part_10 : decode cX9_part 10 = .ok (.ifCond .eq 19, 3) := by decide +kernel
theorem dX9_part_13 : decode cX9_part 13 = .ok (.iconst 1, 1) := by decide +kernel
theorem dX9_part_14 : decode cX9_part 14 = .ok (.iload_n 2, 1) := by decide +kernel
theorem dX9_part_15 : decode cX9_part 15 = .ok (.invokestatic 152, 3) := by decide +kernel
theorem dX9_part_18 : decode cX9_part 18 = .ok (.ifCond .eq 11, 3) := by decide +kernel
theorem dX9_part_21 : decode cX9_part 21 = .ok (.iconst 2, 1) := by decide +kernel
theorem dX9_part_22 : decode cX9_part 22 = .ok (.iload_n 3, 1) := by decide +kernel
theorem dX9_part_23 : decode cX9_part 23 = .ok (.invokestatic 152, 3) := by decide +kernel
theorem dX9_part_26 : decode cX9_part 26 = .ok (.ifCond .ne 9, 3) := by decide +kernel
theorem dX9_part_29 : decode cX9_part 29 = .ok (.aload_n 0, 1) := by decide +kernel
theorem dX9_part_30 : decode cX9_part 30 = .ok (.iconst (-1), 1) := by decide +kernel
theorem dX9_part_31 : decode cX9_part 31 = .ok (.invokevirtual 137, 3) := by decide +kernel
theorem dX9_part_34 : decode cX9_part 34 = .ok (.ireturn, 1) := by decide +kernel
theorem dX9_part_35 : decode cX9_part 35 = .ok (.aload_n 0, 1) := by decide +kernel
theorem dX9_part_36 : decode cX9_part 36 = .ok (.getfield 13, 3) := by decide +kernel
theorem dX9_part_39 : decode cX9_part 39 = .ok (.iconst 1, 1) := by decide +kernel
theorem dX9_part_40 : decode cX9_part 40 = .ok (.iaload, 1) := by decide +kernel
theorem dX9_part_41 : decode cX9_part 41 = .ok (.istore 4, 2) := by decide +kernel
theorem dX9_part_43 : decode cX9_part 43 = .ok (.iload 4, 2) := by decide +kernel
theorem dX9_part_45 : decode cX9_part 45 = .ok (.bipush 8, 2) := by decide +kernel
theorem dX9_part_47 : decode cX9_part 47 = .ok (.if_icmp .ne 10, 3) := by decide +kernel
theorem dX9_part_50 : decode cX9_part 50 = .ok (.aload_n 0, 1) := by decide +kernel
theorem dX9_part_51 : decode cX9_part 51 = .ok (.bipush (-5), 2) := by decide +kernel
theorem dX9_part_53 : decode cX9_part 53 = .ok (.invokevirtual 137, 3) := by decide +kernel
theorem dX9_part_56 : decode cX9_part 56 = .ok (.ireturn, 1) := by decide +kernel
theorem dX9_part_57 : decode cX9_part 57 = .ok (.aload_n 0, 1) := by decide +kernel
theorem dX9_part_58 : decode cX9_part 58 = .ok (.getfield 13, 3) := by decide +kernel
theorem dX9_part_61 : decode cX9_part 61 = .ok (.bipush 42, 2) := by decide +kernel
theorem dX9_part_63 : decode cX9_part 63 = .ok (.iconst 4, 1) := by decide +kernel
theorem dX9_part_64 : decode cX9_part 64 = .ok (.iload 4, 2) := by decide +kernel
theorem dX9_part_66 : decode cX9_part 66 = .ok (.imul, 1) := by decide +kernel
theorem dX9_part_67 : decode cX9_part 67 = .ok (.iadd, 1) := by decide +kernel
theorem dX9_part_68 : decode cX9_part 68 = .ok (.iload_n 1, 1) := by decide +kernel
theorem dX9_part_69 : decode cX9_part 69 = .ok (.iastore, 1) := by decide +kernel
theorem dX9_part_70 : decode cX9_part 70 = .ok (.aload_n 0, 1) := by decide +kernel
theorem dX9_part_71 : decode cX9_part 71 = .ok (.getfield 13, 3) := by decide +kernel
theorem dX9_part_74 : decode cX9_part 74 = .ok (.bipush 42, 2) := by decide +kernel
theorem dX9_part_76 : decode cX9_part 76 = .ok (.iconst 4, 1) := by decide +kernel
theorem dX9_part_77 : decode cX9_part 77 = .ok (.iload 4, 2) := by decide +kernel
theorem dX9_part_79 : decode cX9_part 79 = .ok (.imul, 1) := by decide +kernel
theorem dX9_part_80 : decode cX9_part 80 = .ok (.iadd, 1) := by decide +kernel
theorem dX9_part_81 : decode cX9_part 81 = .ok (.iconst 1, 1) := by decide +kernel
theorem dX9_part_82 : decode cX9_part 82 = .ok (.iadd, 1) := by decide +kernel
theorem dX9_part_83 : decode cX9_part 83 = .ok (.iload_n 2, 1) := by decide +kernel
theorem dX9_part_84 : decode cX9_part 84 = .ok (.iastore, 1) := by decide +kernel
theorem dX9_part_85 : decode cX9_part 85 = .ok (.aload_n 0, 1) := by decide +kernel
theorem dX9_part_86 : decode cX9_part 86 = .ok (.getfield 13, 3) := by decide +kernel
theorem dX9_part_89 : decode cX9_part 89 = .ok (.bipush 42, 2) := by decide +kernel
theorem dX9_part_91 : decode cX9_part 91 = .ok (.iconst 4, 1) := by decide +kernel
theorem dX9_part_92 : decode cX9_part 92 = .ok (.iload 4, 2) := by decide +kernel
theorem dX9_part_94 : decode cX9_part 94 = .ok (.imul, 1) := by decide +kernel
theorem dX9_part_95 : decode cX9_part 95 = .ok (.iadd, 1) := by decide +kernel
theorem dX9_part_96 : decode cX9_part 96 = .ok (.iconst 2, 1) := by decide +kernel
theorem dX9_part_97 : decode cX9_part 97 = .ok (.iadd, 1) := by decide +kernel
theorem dX9_part_98 : decode cX9_part 98 = .ok (.iload_n 3, 1) := by decide +kernel
theorem dX9_part_99 : decode cX9_part 99 = .ok (.iastore, 1) := by decide +kernel
theorem dX9_part_100 : decode cX9_part 100 = .ok (.aload_n 0, 1) := by decide +kernel
theorem dX9_part_101 : decode cX9_part 101 = .ok (.getfield 13, 3) := by decide +kernel
theorem dX9_part_104 : decode cX9_part 104 = .ok (.bipush 42, 2) := by decide +kernel
theorem dX9_part_106 : decode cX9_part 106 = .ok (.iconst 4, 1) := by decide +kernel
theorem dX9_part_107 : decode cX9_part 107 = .ok (.iload 4, 2) := by decide +kernel
theorem dX9_part_109 : decode cX9_part 109 = .ok (.imul, 1) := by decide +kernel
theorem dX9_part_110 : decode cX9_part 110 = .ok (.iadd, 1) := by decide +kernel
theorem dX9_part_111 : decode cX9_part 111 = .ok (.iconst 3, 1) := by decide +kernel
theorem dX9_part_112 : decode cX9_part 112 = .ok (.iadd, 1) := by decide +kernel
theorem dX9_part_113 : decode cX9_part 113 = .ok (.iconst (-1), 1) := by decide +kernel
theorem dX9_part_114 : decode cX9_part 114 = .ok (.iastore, 1) := by decide +kernel
theorem dX9_part_115 : decode cX9_part 115 = .ok (.aload_n 0, 1) := by decide +kernel
theorem dX9_part_116 : decode cX9_part 116 = .ok (.getfield 13, 3) := by decide +kernel
theorem dX9_part_119 : decode cX9_part 119 = .ok (.iconst 1, 1) := by decide +kernel
theorem dX9_part_120 : decode cX9_part 120 = .ok (.dup2, 1) := by decide +kernel
theorem dX9_part_121 : decode cX9_part 121 = .ok (.iaload, 1) := by decide +kernel
theorem dX9_part_122 : decode cX9_part 122 = .ok (.iconst 1, 1) := by decide +kernel
theorem dX9_part_123 : decode cX9_part 123 = .ok (.iadd, 1) := by decide +kernel
theorem dX9_part_124 : decode cX9_part 124 = .ok (.iastore, 1) := by decide +kernel
theorem dX9_part_125 : decode cX9_part 125 = .ok (.aload_n 0, 1) := by decide +kernel
theorem dX9_part_126 : decode cX9_part 126 = .ok (.iload 4, 2) := by decide +kernel
theorem dX9_part_128 : decode cX9_part 128 = .ok (.invokevirtual 137, 3) := by decide +kernel
theorem dX9_part_131 : decode cX9_part 131 = .ok (.ireturn, 1) := by decide +kernel
def bX9_part_0 (l : Launch) (E : Ev) (d : Nat) (Q : Option Value → Hp → Prop) : Kt := k_aload 0 (k_push (.int 0) (k_putI 9 55 0 (k_push (.int 0) (k_iload 1 (k_callS l E YX9_fitsPart d 0 0 2 (k_if_eq (Go l E YX9_part (d + 1) 0 0 Q 0 0 29) (k_push (.int 1) (k_iload 2 (k_callS l E YX9_fitsPart d 0 0 2 (k_if_eq (Go l E YX9_part (d + 1) 0 0 Q 0 0 29) (k_push (.int 2) (k_iload 3 (k_callS l E YX9_fitsPart d 0 0 2 (k_if_ne (k_aload 0 (k_getR 9 55 3 (k_push (.int 1) (k_iaload (k_istore 4 (k_iload 4 (k_push (.int 8) (k_icmp_ne (k_aload 0 (k_getR 9 55 3 (k_push (.int 42) (k_push (.int 4) (k_iload 4 (k_imul (k_iadd (k_iload 1 (k_iastore (k_aload 0 (k_getR 9 55 3 (k_push (.int 42) (k_push (.int 4) (k_iload 4 (k_imul (k_iadd (k_push (.int 1) (k_iadd (k_iload 2 (k_iastore (k_aload 0 (k_getR 9 55 3 (k_push (.int 42) (k_push (.int 4) (k_iload 4 (k_imul (k_iadd (k_push (.int 2) (k_iadd (k_iload 3 (k_iastore (k_aload 0 (k_getR 9 55 3 (k_push (.int 42) (k_push (.int 4) (k_iload 4 (k_imul (k_iadd (k_push (.int 3) (k_iadd (k_push (.int (-1)) (k_iastore (k_aload 0 (k_getR 9 55 3 (k_push (.int 1) (k_dup2 (k_iaload (k_push (.int 1) (k_iadd (k_iastore (k_aload 0 (k_iload 4 (k_callV l E 9 55 YX9_tell d 0 0 1 (k_iret .int Q)))))))))))))))))))))))))))))))))))))))))))))))))))))) (k_aload 0 (k_push (.int (-5)) (k_callV l E 9 55 YX9_tell d 0 0 1 (k_iret .int Q)))))))))))) (Go l E YX9_part (d + 1) 0 0 Q 0 0 29)))))))))))))))
set_option maxRecDepth 100000 in
set_option maxHeartbeats 4000000 in
theorem gX9_part_0 {l : Launch} {E : Ev} {d : Nat} {Q : Option Value → Hp → Prop} {ls : Lv} {st : List Value} {h : Hp} (hB : bX9_part_0 l E d Q ls st h) : Go l E YX9_part (d + 1) 0 0 Q 0 0 0 ls st h :=
  (sd_aload_n (i := 0) rfl dX9_part_0 (sd_iconst (v := 0) (by decide) dX9_part_1 (sd_putI clsX9 (f := 0) (by decide) (fun _ _ _ => rfl) rfl (Or.inl rfl) mw_1178 dX9_part_2 (sd_iconst (v := 0) (by decide) dX9_part_5 (sd_iload_n (i := 1) rfl dX9_part_6 (sd_callS (Y' := YX9_fitsPart) (mc' := 0) (ms' := 0) (n := 2) mw_1373 mw_1374 mw_108 mw_1375 (okmX9_fitsPart) (by decide) (Nat.le_refl _) (by decide) (by decide) dX9_part_7 (sd_if_eq (tgt := 29) (by decide) dX9_part_10 (Sd.go) (sd_iconst (v := 1) (by decide) dX9_part_13 (sd_iload_n (i := 2) rfl dX9_part_14 (sd_callS (Y' := YX9_fitsPart) (mc' := 0) (ms' := 0) (n := 2) mw_1373 mw_1374 mw_108 mw_1375 (okmX9_fitsPart) (by decide) (Nat.le_refl _) (by decide) (by decide) dX9_part_15 (sd_if_eq (tgt := 29) (by decide) dX9_part_18 (Sd.go) (sd_iconst (v := 2) (by decide) dX9_part_21 (sd_iload_n (i := 3) rfl dX9_part_22 (sd_callS (Y' := YX9_fitsPart) (mc' := 0) (ms' := 0) (n := 2) mw_1373 mw_1374 mw_108 mw_1375 (okmX9_fitsPart) (by decide) (Nat.le_refl _) (by decide) (by decide) dX9_part_23 (sd_if_ne (tgt := 35) (by decide) dX9_part_26 (sd_aload_n (i := 0) rfl dX9_part_35 (sd_getR clsX9 (f := 3) (by decide) (fun _ _ _ => rfl) mw_1181 dX9_part_36 (sd_iconst (v := 1) (by decide) dX9_part_39 (sd_iaload dX9_part_40 (sd_istore (i := 4) (by decide) dX9_part_41 (sd_iload (n := 4) dX9_part_43 (sd_bipush (v := 8) (by decide) dX9_part_45 (sd_icmp_ne (tgt := 57) (by decide) dX9_part_47 (sd_aload_n (i := 0) rfl dX9_part_57 (sd_getR clsX9 (f := 3) (by decide) (fun _ _ _ => rfl) mw_1181 dX9_part_58 (sd_bipush (v := 42) (by decide) dX9_part_61 (sd_iconst (v := 4) (by decide) dX9_part_63 (sd_iload (n := 4) dX9_part_64 (sd_imul dX9_part_66 (sd_iadd dX9_part_67 (sd_iload_n (i := 1) rfl dX9_part_68 (sd_iastore dX9_part_69 (sd_aload_n (i := 0) rfl dX9_part_70 (sd_getR clsX9 (f := 3) (by decide) (fun _ _ _ => rfl) mw_1181 dX9_part_71 (sd_bipush (v := 42) (by decide) dX9_part_74 (sd_iconst (v := 4) (by decide) dX9_part_76 (sd_iload (n := 4) dX9_part_77 (sd_imul dX9_part_79 (sd_iadd dX9_part_80 (sd_iconst (v := 1) (by decide) dX9_part_81 (sd_iadd dX9_part_82 (sd_iload_n (i := 2) rfl dX9_part_83 (sd_iastore dX9_part_84 (sd_aload_n (i := 0) rfl dX9_part_85 (sd_getR clsX9 (f := 3) (by decide) (fun _ _ _ => rfl) mw_1181 dX9_part_86 (sd_bipush (v := 42) (by decide) dX9_part_89 (sd_iconst (v := 4) (by decide) dX9_part_91 (sd_iload (n := 4) dX9_part_92 (sd_imul dX9_part_94 (sd_iadd dX9_part_95 (sd_iconst (v := 2) (by decide) dX9_part_96 (sd_iadd dX9_part_97 (sd_iload_n (i := 3) rfl dX9_part_98 (sd_iastore dX9_part_99 (sd_aload_n (i := 0) rfl dX9_part_100 (sd_getR clsX9 (f := 3) (by decide) (fun _ _ _ => rfl) mw_1181 dX9_part_101 (sd_bipush (v := 42) (by decide) dX9_part_104 (sd_iconst (v := 4) (by decide) dX9_part_106 (sd_iload (n := 4) dX9_part_107 (sd_imul dX9_part_109 (sd_iadd dX9_part_110 (sd_iconst (v := 3) (by decide) dX9_part_111 (sd_iadd dX9_part_112 (sd_iconst (v := (-1)) (by decide) dX9_part_113 (sd_iastore dX9_part_114 (sd_aload_n (i := 0) rfl dX9_part_115 (sd_getR clsX9 (f := 3) (by decide) (fun _ _ _ => rfl) mw_1181 dX9_part_116 (sd_iconst (v := 1) (by decide) dX9_part_119 (sd_dup2 dX9_part_120 (sd_iaload dX9_part_121 (sd_iconst (v := 1) (by decide) dX9_part_122 (sd_iadd dX9_part_123 (sd_iastore dX9_part_124 (sd_aload_n (i := 0) rfl dX9_part_125 (sd_iload (n := 4) dX9_part_126 (sd_callV (Y' := YX9_tell) (mc' := 0) (ms' := 0) (n := 1) clsX9.1 mw_1351 mw_1353 mw_45 mw_108 mw_1354 rfl (okmX9_tell) (by decide) (Nat.le_refl _) (by decide) (by decide) dX9_part_128 (sd_iret (ty := .int) rfl (by decide) (by decide) dX9_part_131)))))))))))))))))))))))))))))))))))))))))))))))))))))) (sd_aload_n (i := 0) rfl dX9_part_50 (sd_bipush (v := (-5)) (by decide) dX9_part_51 (sd_callV (Y' := YX9_tell) (mc' := 0) (ms' := 0) (n := 1) clsX9.1 mw_1351 mw_1353 mw_45 mw_108 mw_1354 rfl (okmX9_tell) (by decide) (Nat.le_refl _) (by decide) (by decide) dX9_part_53 (sd_iret (ty := .int) rfl (by decide) (by decide) dX9_part_56)))))))))))) (Sd.go))))))))))))))) : Sd l E YX9_part (d + 1) 0 0 Q 0 0 0 (bX9_part_0 l E d Q)) ls st h hB
def bX9_part_29 (l : Launch) (E : Ev) (d : Nat) (Q : Option Value → Hp → Prop) : Kt := k_aload 0 (k_push (.int (-1)) (k_callV l E 9 55 YX9_tell d 0 0 1 (k_iret .int Q)))
set_option maxRecDepth 100000 in
set_option maxHeartbeats 4000000 in
theorem gX9_part_29 {l : Launch} {E : Ev} {d : Nat} {Q : Option Value → Hp → Prop} {ls : Lv} {st : List Value} {h : Hp} (hB : bX9_part_29 l E d Q ls st h) : Go l E YX9_part (d + 1) 0 0 Q 0 0 29 ls st h :=
  (sd_aload_n (i := 0) rfl dX9_part_29 (sd_iconst (v := (-1)) (by decide) dX9_part_30 (sd_callV (Y' := YX9_tell) (mc' := 0) (ms' := 0) (n := 1) clsX9.1 mw_1351 mw_1353 mw_45 mw_108 mw_1354 rfl (okmX9_tell) (by decide) (Nat.le_refl _) (by decide) (by decide) dX9_part_31 (sd_iret (ty := .int) rfl (by decide) (by decide) dX9_part_34))) : Sd l E YX9_part (d + 1) 0 0 Q 0 0 29 (bX9_part_29 l E d Q)) ls st h hB
theorem eX9_part {l : Launch} {E : Ev} {d : Nat} {Q : Option Value → Hp → Prop} {h : Hp} {a0 : Nat} {x1 : Int32} {x2 : Int32} {x3 : Int32} (hk : Go l E YX9_part d 0 0 Q 0 0 0 [some (.ref a0), some (.int x1), some (.int x2), some (.int x3), none] [] h) : GoM l E YX9_part d 0 0 [.ref a0, .int x1, .int x2, .int x3] h Q := GoM.of (by decide +kernel) rfl (by simp [entA, YX9_part]) hk
theorem dX9_turn_0 : decode cX9_turn 0 = .ok (.aload_n 0, 1) := by decide +kernel
theorem dX9_turn_1 : decode cX9_turn 1 = .ok (.iconst 0, 1) := by decide +kernel
theorem dX9_turn_2 : decode cX9_turn 2 = .ok (.putfield 123, 3) := by decide +kernel
theorem dX9_turn_5 : decode cX9_turn 5 = .ok (.iload_n 2, 1) := by decide +kernel
theorem dX9_turn_6 : decode cX9_turn 6 = .ok (.iload_n 3, 1) := by decide +kernel
theorem dX9_turn_7 : decode cX9_turn 7 = .ok (.invokestatic 148, 3) := by decide +kernel
theorem dX9_turn_10 : decode cX9_turn 10 = .ok (.ifCond .ne 9, 3) := by decide +kernel
theorem dX9_turn_13 : decode cX9_turn 13 = .ok (.aload_n 0, 1) := by decide +kernel
theorem dX9_turn_14 : decode cX9_turn 14 = .ok (.iconst (-1), 1) := by decide +kernel
theorem dX9_turn_15 : decode cX9_turn 15 = .ok (.invokevirtual 137, 3) := by decide +kernel
theorem dX9_turn_18 : decode cX9_turn 18 = .ok (.ireturn, 1) := by decide +kernel
theorem dX9_turn_19 : decode cX9_turn 19 = .ok (.aload_n 0, 1) := by decide +kernel
theorem dX9_turn_20 : decode cX9_turn 20 = .ok (.iload_n 1, 1) := by decide +kernel
theorem dX9_turn_21 : decode cX9_turn 21 = .ok (.invokevirtual 155, 3) := by decide +kernel
theorem dX9_turn_24 : decode cX9_turn 24 = .ok (.ifCond .eq 19, 3) := by decide +kernel
theorem dX9_turn_27 : decode cX9_turn 27 = .ok (.aload_n 0, 1) := by decide +kernel
theorem dX9_turn_28 : decode cX9_turn 28 = .ok (.bipush 10, 2) := by decide +kernel
theorem dX9_turn_30 : decode cX9_turn 30 = .ok (.iconst 4, 1) := by decide +kernel
theorem dX9_turn_31 : decode cX9_turn 31 = .ok (.iload_n 1, 1) := by decide +kernel
theorem dX9_turn_32 : decode cX9_turn 32 = .ok (.imul, 1) := by decide +kernel
theorem dX9_turn_33 : decode cX9_turn 33 = .ok (.iadd, 1) := by decide +kernel
theorem dX9_turn_34 : decode cX9_turn 34 = .ok (.iload_n 2, 1) := by decide +kernel
theorem dX9_turn_35 : decode cX9_turn 35 = .ok (.iadd, 1) := by decide +kernel
theorem dX9_turn_36 : decode cX9_turn 36 = .ok (.iload_n 3, 1) := by decide +kernel
theorem dX9_turn_37 : decode cX9_turn 37 = .ok (.invokevirtual 159, 3) := by decide +kernel
theorem dX9_turn_40 : decode cX9_turn 40 = .ok (.goto 9, 3) := by decide +kernel
theorem dX9_turn_43 : decode cX9_turn 43 = .ok (.aload_n 0, 1) := by decide +kernel
theorem dX9_turn_44 : decode cX9_turn 44 = .ok (.bipush (-2), 2) := by decide +kernel
theorem dX9_turn_46 : decode cX9_turn 46 = .ok (.invokevirtual 137, 3) := by decide +kernel
theorem dX9_turn_49 : decode cX9_turn 49 = .ok (.ireturn, 1) := by decide +kernel
def bX9_turn_0 (l : Launch) (E : Ev) (d : Nat) (Q : Option Value → Hp → Prop) : Kt := k_aload 0 (k_push (.int 0) (k_putI 9 55 0 (k_iload 2 (k_iload 3 (k_callS l E YX9_fitsActor d 0 0 2 (k_if_ne (k_aload 0 (k_iload 1 (k_callV l E 9 55 YX9_isActor d 0 0 1 (k_if_eq (k_aload 0 (k_push (.int (-2)) (k_callV l E 9 55 YX9_tell d 0 0 1 (k_iret .int Q)))) (k_aload 0 (k_push (.int 10) (k_push (.int 4) (k_iload 1 (k_imul (k_iadd (k_iload 2 (k_iadd (k_iload 3 (k_callV l E 9 55 YX9_change d 0 0 2 (k_iret .int Q))))))))))))))) (k_aload 0 (k_push (.int (-1)) (k_callV l E 9 55 YX9_tell d 0 0 1 (k_iret .int Q))))))))))
set_option maxRecDepth 100000 in
set_option maxHeartbeats 4000000 in
theorem gX9_turn_0 {l : Launch} {E : Ev} {d : Nat} {Q : Option Value → Hp → Prop} {ls : Lv} {st : List Value} {h : Hp} (hB : bX9_turn_0 l E d Q ls st h) : Go l E YX9_turn (d + 1) 0 0 Q 0 0 0 ls st h :=
  (sd_aload_n (i := 0) rfl dX9_turn_0 (sd_iconst (v := 0) (by decide) dX9_turn_1 (sd_putI clsX9 (f := 0) (by decide) (fun _ _ _ => rfl) rfl (Or.inl rfl) mw_1178 dX9_turn_2 (sd_iload_n (i := 2) rfl dX9_turn_5 (sd_iload_n (i := 3) rfl dX9_turn_6 (sd_callS (Y' := YX9_fitsActor) (mc' := 0) (ms' := 0) (n := 2) mw_1363 mw_1364 mw_108 mw_1365 (okmX9_fitsActor) (by decide) (Nat.le_refl _) (by decide) (by decide) dX9_turn_7 (sd_if_ne (tgt := 19) (by decide) dX9_turn_10 (sd_aload_n (i := 0) rfl dX9_turn_19 (sd_iload_n (i := 1) rfl dX9_turn_20 (sd_callV (Y' := YX9_isActor) (mc' := 0) (ms' := 0) (n := 1) clsX9.1 mw_1381 mw_1383 mw_46 mw_108 mw_1384 rfl (okmX9_isActor) (by decide) (Nat.le_refl _) (by decide) (by decide) dX9_turn_21 (sd_if_eq (tgt := 43) (by decide) dX9_turn_24 (sd_aload_n (i := 0) rfl dX9_turn_43 (sd_bipush (v := (-2)) (by decide) dX9_turn_44 (sd_callV (Y' := YX9_tell) (mc' := 0) (ms' := 0) (n := 1) clsX9.1 mw_1351 mw_1353 mw_45 mw_108 mw_1354 rfl (okmX9_tell) (by decide) (Nat.le_refl _) (by decide) (by decide) dX9_turn_46 (sd_iret (ty := .int) rfl (by decide) (by decide) dX9_turn_49)))) (sd_aload_n (i := 0) rfl dX9_turn_27 (sd_bipush (v := 10) (by decide) dX9_turn_28 (sd_iconst (v := 4) (by decide) dX9_turn_30 (sd_iload_n (i := 1) rfl dX9_turn_31 (sd_imul dX9_turn_32 (sd_iadd dX9_turn_33 (sd_iload_n (i := 2) rfl dX9_turn_34 (sd_iadd dX9_turn_35 (sd_iload_n (i := 3) rfl dX9_turn_36 (sd_callV (Y' := YX9_change) (mc' := 0) (ms' := 0) (n := 2) clsX9.1 mw_1385 mw_1387 mw_47 mw_108 mw_1388 rfl (okmX9_change) (by decide) (Nat.le_refl _) (by decide) (by decide) dX9_turn_37 (sd_goto (tgt := 49) (by decide) dX9_turn_40 (sd_iret (ty := .int) rfl (by decide) (by decide) dX9_turn_49)))))))))))))))) (sd_aload_n (i := 0) rfl dX9_turn_13 (sd_iconst (v := (-1)) (by decide) dX9_turn_14 (sd_callV (Y' := YX9_tell) (mc' := 0) (ms' := 0) (n := 1) clsX9.1 mw_1351 mw_1353 mw_45 mw_108 mw_1354 rfl (okmX9_tell) (by decide) (Nat.le_refl _) (by decide) (by decide) dX9_turn_15 (sd_iret (ty := .int) rfl (by decide) (by decide) dX9_turn_18)))))))))) : Sd l E YX9_turn (d + 1) 0 0 Q 0 0 0 (bX9_turn_0 l E d Q)) ls st h hB
theorem eX9_turn {l : Launch} {E : Ev} {d : Nat} {Q : Option Value → Hp → Prop} {h : Hp} {a0 : Nat} {x1 : Int32} {x2 : Int32} {x3 : Int32} (hk : Go l E YX9_turn d 0 0 Q 0 0 0 [some (.ref a0), some (.int x1), some (.int x2), some (.int x3)] [] h) : GoM l E YX9_turn d 0 0 [.ref a0, .int x1, .int x2, .int x3] h Q := GoM.of (by decide +kernel) rfl (by simp [entA, YX9_turn]) hk
theorem dX9_alter_0 : decode cX9_alter 0 = .ok (.aload_n 0, 1) := by decide +kernel
theorem dX9_alter_1 : decode cX9_alter 1 = .ok (.iconst 0, 1) := by decide +kernel
theorem dX9_alter_2 : decode cX9_alter 2 = .ok (.putfield 123, 3) := by decide +kernel
theorem dX9_alter_5 : decode cX9_alter 5 = .ok (.iload_n 2, 1) := by decide +kernel
theorem dX9_alter_6 : decode cX9_alter 6 = .ok (.iload_n 3, 1) := by decide +kernel
theorem dX9_alter_7 : decode cX9_alter 7 = .ok (.invokestatic 152, 3) := by decide +kernel
theorem dX9_alter_10 : decode cX9_alter 10 = .ok (.ifCond .ne 9, 3) := by decide +kernel
theorem dX9_alter_13 : decode cX9_alter 13 = .ok (.aload_n 0, 1) := by decide +kernel
theorem dX9_alter_14 : decode cX9_alter 14 = .ok (.iconst (-1), 1) := by decide +kernel
theorem dX9_alter_15 : decode cX9_alter 15 = .ok (.invokevirtual 137, 3) := by decide +kernel
theorem dX9_alter_18 : decode cX9_alter 18 = .ok (.ireturn, 1) := by decide +kernel
theorem dX9_alter_19 : decode cX9_alter 19 = .ok (.aload_n 0, 1) := by decide +kernel
theorem dX9_alter_20 : decode cX9_alter 20 = .ok (.iload_n 1, 1) := by decide +kernel
theorem dX9_alter_21 : decode cX9_alter 21 = .ok (.invokevirtual 163, 3) := by decide +kernel
theorem dX9_alter_24 : decode cX9_alter 24 = .ok (.ifCond .eq 19, 3) := by decide +kernel
theorem dX9_alter_27 : decode cX9_alter 27 = .ok (.aload_n 0, 1) := by decide +kernel
theorem dX9_alter_28 : decode cX9_alter 28 = .ok (.bipush 42, 2) := by decide +kernel
theorem dX9_alter_30 : decode cX9_alter 30 = .ok (.iconst 4, 1) := by decide +kernel
theorem dX9_alter_31 : decode cX9_alter 31 = .ok (.iload_n 1, 1) := by decide +kernel
theorem dX9_alter_32 : decode cX9_alter 32 = .ok (.imul, 1) := by decide +kernel
theorem dX9_alter_33 : decode cX9_alter 33 = .ok (.iadd, 1) := by decide +kernel
theorem dX9_alter_34 : decode cX9_alter 34 = .ok (.iload_n 2, 1) := by decide +kernel
theorem dX9_alter_35 : decode cX9_alter 35 = .ok (.iadd, 1) := by decide +kernel
theorem dX9_alter_36 : decode cX9_alter 36 = .ok (.iload_n 3, 1) := by decide +kernel
theorem dX9_alter_37 : decode cX9_alter 37 = .ok (.invokevirtual 159, 3) := by decide +kernel
theorem dX9_alter_40 : decode cX9_alter 40 = .ok (.goto 9, 3) := by decide +kernel
theorem dX9_alter_43 : decode cX9_alter 43 = .ok (.aload_n 0, 1) := by decide +kernel
theorem dX9_alter_44 : decode cX9_alter 44 = .ok (.bipush (-2), 2) := by decide +kernel
theorem dX9_alter_46 : decode cX9_alter 46 = .ok (.invokevirtual 137, 3) := by decide +kernel
theorem dX9_alter_49 : decode cX9_alter 49 = .ok (.ireturn, 1) := by decide +kernel
def bX9_alter_0 (l : Launch) (E : Ev) (d : Nat) (Q : Option Value → Hp → Prop) : Kt := k_aload 0 (k_push (.int 0) (k_putI 9 55 0 (k_iload 2 (k_iload 3 (k_callS l E YX9_fitsPart d 0 0 2 (k_if_ne (k_aload 0 (k_iload 1 (k_callV l E 9 55 YX9_isPart d 0 0 1 (k_if_eq (k_aload 0 (k_push (.int (-2)) (k_callV l E 9 55 YX9_tell d 0 0 1 (k_iret .int Q)))) (k_aload 0 (k_push (.int 42) (k_push (.int 4) (k_iload 1 (k_imul (k_iadd (k_iload 2 (k_iadd (k_iload 3 (k_callV l E 9 55 YX9_change d 0 0 2 (k_iret .int Q))))))))))))))) (k_aload 0 (k_push (.int (-1)) (k_callV l E 9 55 YX9_tell d 0 0 1 (k_iret .int Q))))))))))
set_option maxRecDepth 100000 in
set_option maxHeartbeats 4000000 in
theorem gX9_alter_0 {l : Launch} {E : Ev} {d : Nat} {Q : Option Value → Hp → Prop} {ls : Lv} {st : List Value} {h : Hp} (hB : bX9_alter_0 l E d Q ls st h) : Go l E YX9_alter (d + 1) 0 0 Q 0 0 0 ls st h :=
  (sd_aload_n (i := 0) rfl dX9_alter_0 (sd_iconst (v := 0) (by decide) dX9_alter_1 (sd_putI clsX9 (f := 0) (by decide) (fun _ _ _ => rfl) rfl (Or.inl rfl) mw_1178 dX9_alter_2 (sd_iload_n (i := 2) rfl dX9_alter_5 (sd_iload_n (i := 3) rfl dX9_alter_6 (sd_callS (Y' := YX9_fitsPart) (mc' := 0) (ms' := 0) (n := 2) mw_1373 mw_1374 mw_108 mw_1375 (okmX9_fitsPart) (by decide) (Nat.le_refl _) (by decide) (by decide) dX9_alter_7 (sd_if_ne (tgt := 19) (by decide) dX9_alter_10 (sd_aload_n (i := 0) rfl dX9_alter_19 (sd_iload_n (i := 1) rfl dX9_alter_20 (sd_callV (Y' := YX9_isPart) (mc' := 0) (ms' := 0) (n := 1) clsX9.1 mw_1397 mw_1399 mw_49 mw_108 mw_1400 rfl (okmX9_isPart) (by decide) (Nat.le_refl _) (by decide) (by decide) dX9_alter_21 (sd_if_eq (tgt := 43) (by decide) dX9_alter_24 (sd_aload_n (i := 0) rfl dX9_alter_43 (sd_bipush (v := (-2)) (by decide) dX9_alter_44 (sd_callV (Y' := YX9_tell) (mc' := 0) (ms' := 0) (n := 1) clsX9.1 mw_1351 mw_1353 mw_45 mw_108 mw_1354 rfl (okmX9_tell) (by decide) (Nat.le_refl _) (by decide) (by decide) dX9_alter_46 (sd_iret (ty := .int) rfl (by decide) (by decide) dX9_alter_49)))) (sd_aload_n (i := 0) rfl dX9_alter_27 (sd_bipush (v := 42) (by decide) dX9_alter_28 (sd_iconst (v := 4) (by decide) dX9_alter_30 (sd_iload_n (i := 1) rfl dX9_alter_31 (sd_imul dX9_alter_32 (sd_iadd dX9_alter_33 (sd_iload_n (i := 2) rfl dX9_alter_34 (sd_iadd dX9_alter_35 (sd_iload_n (i := 3) rfl dX9_alter_36 (sd_callV (Y' := YX9_change) (mc' := 0) (ms' := 0) (n := 2) clsX9.1 mw_1385 mw_1387 mw_47 mw_108 mw_1388 rfl (okmX9_change) (by decide) (Nat.le_refl _) (by decide) (by decide) dX9_alter_37 (sd_goto (tgt := 49) (by decide) dX9_alter_40 (sd_iret (ty := .int) rfl (by decide) (by decide) dX9_alter_49)))))))))))))))) (sd_aload_n (i := 0) rfl dX9_alter_13 (sd_iconst (v := (-1)) (by decide) dX9_alter_14 (sd_callV (Y' := YX9_tell) (mc' := 0) (ms' := 0) (n := 1) clsX9.1 mw_1351 mw_1353 mw_45 mw_108 mw_1354 rfl (okmX9_tell) (by decide) (Nat.le_refl _) (by decide) (by decide) dX9_alter_15 (sd_iret (ty := .int) rfl (by decide) (by decide) dX9_alter_18)))))))))) : Sd l E YX9_alter (d + 1) 0 0 Q 0 0 0 (bX9_alter_0 l E d Q)) ls st h hB
theorem eX9_alter {l : Launch} {E : Ev} {d : Nat} {Q : Option Value → Hp → Prop} {h : Hp} {a0 : Nat} {x1 : Int32} {x2 : Int32} {x3 : Int32} (hk : Go l E YX9_alter d 0 0 Q 0 0 0 [some (.ref a0), some (.int x1), some (.int x2), some (.int x3)] [] h) : GoM l E YX9_alter d 0 0 [.ref a0, .int x1, .int x2, .int x3] h Q := GoM.of (by decide +kernel) rfl (by simp [entA, YX9_alter]) hk
theorem dX9_usual_0 : decode cX9_usual 0 = .ok (.aload_n 0, 1) := by decide +kernel
theorem dX9_usual_1 : decode cX9_usual 1 = .ok (.iconst 0, 1) := by decide +kernel
theorem dX9_usual_2 : decode cX9_usual 2 = .ok (.putfield 123, 3) := by decide +kernel
theorem dX9_usual_5 : decode cX9_usual 5 = .ok (.aload_n 0, 1) := by decide +kernel
theorem dX9_usual_6 : decode cX9_usual 6 = .ok (.iload_n 1, 1) := by decide +kernel
theorem dX9_usual_7 : decode cX9_usual 7 = .ok (.invokevirtual 163, 3) := by decide +kernel
theorem dX9_usual_10 : decode cX9_usual 10 = .ok (.ifCond .eq 32, 3) := by decide +kernel
theorem dX9_usual_13 : decode cX9_usual 13 = .ok (.iload_n 2, 1) := by decide +kernel
theorem dX9_usual_14 : decode cX9_usual 14 = .ok (.iconst (-1), 1) := by decide +kernel
theorem dX9_usual_15 : decode cX9_usual 15 = .ok (.if_icmp .eq 11, 3) := by decide +kernel
theorem dX9_usual_18 : decode cX9_usual 18 = .ok (.aload_n 0, 1) := by decide +kernel
theorem dX9_usual_19 : decode cX9_usual 19 = .ok (.iload_n 2, 1) := by decide +kernel
theorem dX9_usual_20 : decode cX9_usual 20 = .ok (.invokevirtual 155, 3) := by decide +kernel
theorem dX9_usual_23 : decode cX9_usual 23 = .ok (.ifCond .eq 19, 3) := by decide +kernel
theorem dX9_usual_26 : decode cX9_usual 26 = .ok (.aload_n 0, 1) := by decide +kernel
theorem dX9_usual_27 : decode cX9_usual 27 = .ok (.bipush 42, 2) := by decide +kernel
theorem dX9_usual_29 : decode cX9_usual 29 = .ok (.iconst 4, 1) := by decide +kernel
theorem dX9_usual_30 : decode cX9_usual 30 = .ok (.iload_n 1, 1) := by decide +kernel
theorem dX9_usual_31 : decode cX9_usual 31 = .ok (.imul, 1) := by decide +kernel
theorem dX9_usual_32 : decode cX9_usual 32 = .ok (.iadd, 1) := by decide +kernel
theorem dX9_usual_33 : decode cX9_usual 33 = .ok (.iconst 3, 1) := by decide +kernel
theorem dX9_usual_34 : decode cX9_usual 34 = .ok (.iadd, 1) := by decide +kernel
theorem dX9_usual_35 : decode cX9_usual 35 = .ok (.iload_n 2, 1) := by decide +kernel
theorem dX9_usual_36 : decode cX9_usual 36 = .ok (.invokevirtual 159, 3) := by decide +kernel
theorem dX9_usual_39 : decode cX9_usual 39 = .ok (.goto 9, 3) := by decide +kernel
theorem dX9_usual_42 : decode cX9_usual 42 = .ok (.aload_n 0, 1) := by decide +kernel
theorem dX9_usual_43 : decode cX9_usual 43 = .ok (.bipush (-2), 2) := by decide +kernel
theorem dX9_usual_45 : decode cX9_usual 45 = .ok (.invokevirtual 137, 3) := by decide +kernel
theorem dX9_usual_48 : decode cX9_usual 48 = .ok (.ireturn, 1) := by decide +kernel
def bX9_usual_0 (l : Launch) (E : Ev) (d : Nat) (Q : Option Value → Hp → Prop) : Kt := k_aload 0 (k_push (.int 0) (k_putI 9 55 0 (k_aload 0 (k_iload 1 (k_callV l E 9 55 YX9_isPart d 0 0 1 (k_if_eq (Go l E YX9_usual (d + 1) 0 0 Q 0 0 42) (k_iload 2 (k_push (.int (-1)) (k_icmp_eq (Go l E YX9_usual (d + 1) 0 0 Q 0 0 26) (k_aload 0 (k_iload 2 (k_callV l E 9 55 YX9_isActor d 0 0 1 (k_if_eq (Go l E YX9_usual (d + 1) 0 0 Q 0 0 42) (Go l E YX9_usual (d + 1) 0 0 Q 0 0 26))))))))))))))
set_option maxRecDepth 100000 in
set_option maxHeartbeats 4000000 in
theorem gX9_usual_0 {l : Launch} {E : Ev} {d : Nat} {Q : Option Value → Hp → Prop} {ls : Lv} {st : List Value} {h : Hp} (hB : bX9_usual_0 l E d Q ls st h) : Go l E YX9_usual (d + 1) 0 0 Q 0 0 0 ls st h :=
  (sd_aload_n (i := 0) rfl dX9_usual_0 (sd_iconst (v := 0) (by decide) dX9_usual_1 (sd_putI clsX9 (f := 0) (by decide) (fun _ _ _ => rfl) rfl (Or.inl rfl) mw_1178 dX9_usual_2 (sd_aload_n (i := 0) rfl dX9_usual_5 (sd_iload_n (i := 1) rfl dX9_usual_6 (sd_callV (Y' := YX9_isPart) (mc' := 0) (ms' := 0) (n := 1) clsX9.1 mw_1397 mw_1399 mw_49 mw_108 mw_1400 rfl (okmX9_isPart) (by decide) (Nat.le_refl _) (by decide) (by decide) dX9_usual_7 (sd_if_eq (tgt := 42) (by decide) dX9_usual_10 (Sd.go) (sd_iload_n (i := 2) rfl dX9_usual_13 (sd_iconst (v := (-1)) (by decide) dX9_usual_14 (sd_icmp_eq (tgt := 26) (by decide) dX9_usual_15 (Sd.go) (sd_aload_n (i := 0) rfl dX9_usual_18 (sd_iload_n (i := 2) rfl dX9_usual_19 (sd_callV (Y' := YX9_isActor) (mc' := 0) (ms' := 0) (n := 1) clsX9.1 mw_1381 mw_1383 mw_46 mw_108 mw_1384 rfl (okmX9_isActor) (by decide) (Nat.le_refl _) (by decide) (by decide) dX9_usual_20 (sd_if_eq (tgt := 42) (by decide) dX9_usual_23 (Sd.go) (Sd.go)))))))))))))) : Sd l E YX9_usual (d + 1) 0 0 Q 0 0 0 (bX9_usual_0 l E d Q)) ls st h hB
def bX9_usual_26 (l : Launch) (E : Ev) (d : Nat) (Q : Option Value → Hp → Prop) : Kt := k_aload 0 (k_push (.int 42) (k_push (.int 4) (k_iload 1 (k_imul (k_iadd (k_push (.int 3) (k_iadd (k_iload 2 (k_callV l E 9 55 YX9_change d 0 0 2 (k_iret .int Q))))))))))
set_option maxRecDepth 100000 in
set_option maxHeartbeats 4000000 in
theorem gX9_usual_26 {l : Launch} {E : Ev} {d : Nat} {Q : Option Value → Hp → Prop} {ls : Lv} {st : List Value} {h : Hp} (hB : bX9_usual_26 l E d Q ls st h) : Go l E YX9_usual (d + 1) 0 0 Q 0 0 26 ls st h :=
  (sd_aload_n (i := 0) rfl dX9_usual_26 (sd_bipush (v := 42) (by decide) dX9_usual_27 (sd_iconst (v := 4) (by decide) dX9_usual_29 (sd_iload_n (i := 1) rfl dX9_usual_30 (sd_imul dX9_usual_31 (sd_iadd dX9_usual_32 (sd_iconst (v := 3) (by decide) dX9_usual_33 (sd_iadd dX9_usual_34 (sd_iload_n (i := 2) rfl dX9_usual_35 (sd_callV (Y' := YX9_change) (mc' := 0) (ms' := 0) (n := 2) clsX9.1 mw_1385 mw_1387 mw_47 mw_108 mw_1388 rfl (okmX9_change) (by decide) (Nat.le_refl _) (by decide) (by decide) dX9_usual_36 (sd_goto (tgt := 48) (by decide) dX9_usual_39 (sd_iret (ty := .int) rfl (by decide) (by decide) dX9_usual_48))))))))))) : Sd l E YX9_usual (d + 1) 0 0 Q 0 0 26 (bX9_usual_26 l E d Q)) ls st h hB
def bX9_usual_42 (l : Launch) (E : Ev) (d : Nat) (Q : Option Value → Hp → Prop) : Kt := k_aload 0 (k_push (.int (-2)) (k_callV l E 9 55 YX9_tell d 0 0 1 (k_iret .int Q)))
set_option maxRecDepth 100000 in
set_option maxHeartbeats 4000000 in
theorem gX9_usual_42 {l : Launch} {E : Ev} {d : Nat} {Q : Option Value → Hp → Prop} {ls : Lv} {st : List Value} {h : Hp} (hB : bX9_usual_42 l E d Q ls st h) : Go l E YX9_usual (d + 1) 0 0 Q 0 0 42 ls st h :=
  (sd_aload_n (i := 0) rfl dX9_usual_42 (sd_bipush (v := (-2)) (by decide) dX9_usual_43 (sd_callV (Y' := YX9_tell) (mc' := 0) (ms' := 0) (n := 1) clsX9.1 mw_1351 mw_1353 mw_45 mw_108 mw_1354 rfl (okmX9_tell) (by decide) (Nat.le_refl _) (by decide) (by decide) dX9_usual_45 (sd_iret (ty := .int) rfl (by decide) (by decide) dX9_usual_48))) : Sd l E YX9_usual (d + 1) 0 0 Q 0 0 42 (bX9_usual_42 l E d Q)) ls st h hB
theorem eX9_usual {l : Launch} {E : Ev} {d : Nat} {Q : Option Value → Hp → Prop} {h : Hp} {a0 : Nat} {x1 : Int32} {x2 : Int32} (hk : Go l E YX9_usual d 0 0 Q 0 0 0 [some (.ref a0), some (.int x1), some (.int x2)] [] h) : GoM l E YX9_usual d 0 0 [.ref a0, .int x1, .int x2] h Q := GoM.of (by decide +kernel) rfl (by simp [entA, YX9_usual]) hk
