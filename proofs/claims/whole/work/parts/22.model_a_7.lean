theorem dX9_season_0 : decode cX9_season 0 = .ok (.aload_n 0, 1) := by decide +kernel
theorem dX9_season_1 : decode cX9_season 1 = .ok (.iconst 0, 1) := by decide +kernel
theorem dX9_season_2 : decode cX9_season 2 = .ok (.putfield 123, 3) := by decide +kernel
theorem dX9_season_5 : decode cX9_season 5 = .ok (.iload_n 1, 1) := by decide +kernel
theorem dX9_season_6 : decode cX9_season 6 = .ok (.i2l, 1) := by decide +kernel
theorem dX9_season_7 : decode cX9_season 7 = .ok (.lconst 0, 1) := by decide +kernel
theorem dX9_season_8 : decode cX9_season 8 = .ok (.ldc2_w 213, 3) := by decide +kernel
theorem dX9_season_11 : decode cX9_season 11 = .ok (.invokestatic 133, 3) := by decide +kernel
theorem dX9_season_14 : decode cX9_season 14 = .ok (.ifCond .eq 15, 3) := by decide +kernel
theorem dX9_season_17 : decode cX9_season 17 = .ok (.iload_n 2, 1) := by decide +kernel
theorem dX9_season_18 : decode cX9_season 18 = .ok (.i2l, 1) := by decide +kernel
theorem dX9_season_19 : decode cX9_season 19 = .ok (.lconst 1, 1) := by decide +kernel
theorem dX9_season_20 : decode cX9_season 20 = .ok (.ldc2_w 455, 3) := by decide +kernel
theorem dX9_season_23 : decode cX9_season 23 = .ok (.invokestatic 133, 3) := by decide +kernel
theorem dX9_season_26 : decode cX9_season 26 = .ok (.ifCond .ne 9, 3) := by decide +kernel
theorem dX9_season_29 : decode cX9_season 29 = .ok (.aload_n 0, 1) := by decide +kernel
theorem dX9_season_30 : decode cX9_season 30 = .ok (.iconst (-1), 1) := by decide +kernel
theorem dX9_season_31 : decode cX9_season 31 = .ok (.invokevirtual 137, 3) := by decide +kernel
theorem dX9_season_34 : decode cX9_season 34 = .ok (.ireturn, 1) := by decide +kernel
theorem dX9_season_35 : decode cX9_season 35 = .ok (.aload_n 0, 1) := by decide +kernel
theorem dX9_season_36 : decode cX9_season 36 = .ok (.invokevirtual 351, 3) := by decide +kernel
theorem dX9_season_39 : decode cX9_season 39 = .ok (.iload_n 1, 1) := by decide +kernel
theorem dX9_season_40 : decode cX9_season 40 = .ok (.i2l, 1) := by decide +kernel
theorem dX9_season_41 : decode cX9_season 41 = .ok (.lstore_n 3, 1) := by decide +kernel
theorem dX9_season_42 : decode cX9_season 42 = .ok (.iconst 0, 1) := by decide +kernel
theorem dX9_season_43 : decode cX9_season 43 = .ok (.istore 5, 2) := by decide +kernel
theorem dX9_season_45 : decode cX9_season 45 = .ok (.iconst 0, 1) := by decide +kernel
theorem dX9_season_46 : decode cX9_season 46 = .ok (.istore 6, 2) := by decide +kernel
theorem dX9_season_48 : decode cX9_season 48 = .ok (.iload 6, 2) := by decide +kernel
theorem dX9_season_50 : decode cX9_season 50 = .ok (.iload_n 2, 1) := by decide +kernel
theorem dX9_season_51 : decode cX9_season 51 = .ok (.if_icmp .ge 211, 3) := by decide +kernel
theorem dX9_season_54 : decode cX9_season 54 = .ok (.iconst 0, 1) := by decide +kernel
theorem dX9_season_55 : decode cX9_season 55 = .ok (.istore 7, 2) := by decide +kernel
theorem dX9_season_57 : decode cX9_season 57 = .ok (.iconst 0, 1) := by decide +kernel
theorem dX9_season_58 : decode cX9_season 58 = .ok (.istore 8, 2) := by decide +kernel
theorem dX9_season_60 : decode cX9_season 60 = .ok (.iload 8, 2) := by decide +kernel
theorem dX9_season_62 : decode cX9_season 62 = .ok (.aload_n 0, 1) := by decide +kernel
theorem dX9_season_63 : decode cX9_season 63 = .ok (.getfield 13, 3) := by decide +kernel
theorem dX9_season_66 : decode cX9_season 66 = .ok (.iconst 0, 1) := by decide +kernel
theorem dX9_season_67 : decode cX9_season 67 = .ok (.iaload, 1) := by decide +kernel
theorem dX9_season_68 : decode cX9_season 68 = .ok (.if_icmp .ge 60, 3) := by decide +kernel
theorem dX9_season_71 : decode cX9_season 71 = .ok (.lload_n 3, 1) := by decide +kernel
theorem dX9_season_72 : decode cX9_season 72 = .ok (.ldc2_w 457, 3) := by decide +kernel
theorem dX9_season_75 : decode cX9_season 75 = .ok (.lmul, 1) := by decide +kernel
theorem dX9_season_76 : decode cX9_season 76 = .ok (.ldc2_w 459, 3) := by decide +kernel
theorem dX9_season_79 : decode cX9_season 79 = .ok (.ladd, 1) := by decide +kernel
theorem dX9_season_80 : decode cX9_season 80 = .ok (.ldc2_w 461, 3) := by decide +kernel
theorem dX9_season_83 : decode cX9_season 83 = .ok (.lrem, 1) := by decide +kernel
theorem dX9_season_84 : decode cX9_season 84 = .ok (.lstore_n 3, 1) := by decide +kernel
theorem dX9_season_85 : decode cX9_season 85 = .ok (.iload 7, 2) := by decide +kernel
theorem dX9_season_87 : decode cX9_season 87 = .ok (.lload_n 3, 1) := by decide +kernel
theorem dX9_season_88 : decode cX9_season 88 = .ok (.ldc2_w 140, 3) := by decide +kernel
theorem dX9_season_91 : decode cX9_season 91 = .ok (.lrem, 1) := by decide +kernel
theorem dX9_season_92 : decode cX9_season 92 = .ok (.aload_n 0, 1) := by decide +kernel
theorem dX9_season_93 : decode cX9_season 93 = .ok (.getfield 13, 3) := by decide +kernel
theorem dX9_season_96 : decode cX9_season 96 = .ok (.bipush 10, 2) := by decide +kernel
theorem dX9_season_98 : decode cX9_season 98 = .ok (.iconst 4, 1) := by decide +kernel
theorem dX9_season_99 : decode cX9_season 99 = .ok (.iload 8, 2) := by decide +kernel
theorem dX9_season_101 : decode cX9_season 101 = .ok (.imul, 1) := by decide +kernel
theorem dX9_season_102 : decode cX9_season 102 = .ok (.iadd, 1) := by decide +kernel
theorem dX9_season_103 : decode cX9_season 103 = .ok (.iconst 3, 1) := by decide +kernel
theorem dX9_season_104 : decode cX9_season 104 = .ok (.iadd, 1) := by decide +kernel
theorem dX9_season_105 : decode cX9_season 105 = .ok (.iaload, 1) := by decide +kernel
theorem dX9_season_106 : decode cX9_season 106 = .ok (.i2l, 1) := by decide +kernel
theorem dX9_season_107 : decode cX9_season 107 = .ok (.lcmp, 1) := by decide +kernel
theorem dX9_season_108 : decode cX9_season 108 = .ok (.ifCond .ge 10, 3) := by decide +kernel
theorem dX9_season_111 : decode cX9_season 111 = .ok (.iconst 1, 1) := by decide +kernel
theorem dX9_season_112 : decode cX9_season 112 = .ok (.iload 8, 2) := by decide +kernel
theorem dX9_season_114 : decode cX9_season 114 = .ok (.ishl, 1) := by decide +kernel
theorem dX9_season_115 : decode cX9_season 115 = .ok (.goto 4, 3) := by decide +kernel
theorem dX9_season_118 : decode cX9_season 118 = .ok (.iconst 0, 1) := by decide +kernel
theorem dX9_season_119 : decode cX9_season 119 = .ok (.ior, 1) := by decide +kernel
theorem dX9_season_120 : decode cX9_season 120 = .ok (.istore 7, 2) := by decide +kernel
theorem dX9_season_122 : decode cX9_season 122 = .ok (.iinc 8 1, 3) := by decide +kernel
theorem dX9_season_125 : decode cX9_season 125 = .ok (.goto (-65), 3) := by decide +kernel
theorem dX9_season_128 : decode cX9_season 128 = .ok (.aload_n 0, 1) := by decide +kernel
theorem dX9_season_129 : decode cX9_season 129 = .ok (.invokevirtual 354, 3) := by decide +kernel
theorem dX9_season_132 : decode cX9_season 132 = .ok (.aload_n 0, 1) := by decide +kernel
theorem dX9_season_133 : decode cX9_season 133 = .ok (.iload 7, 2) := by decide +kernel
theorem dX9_season_135 : decode cX9_season 135 = .ok (.invokevirtual 399, 3) := by decide +kernel
theorem dX9_season_138 : decode cX9_season 138 = .ok (.istore 8, 2) := by decide +kernel
theorem dX9_season_140 : decode cX9_season 140 = .ok (.aload_n 0, 1) := by decide +kernel
theorem dX9_season_141 : decode cX9_season 141 = .ok (.getfield 114, 3) := by decide +kernel
theorem dX9_season_144 : decode cX9_season 144 = .ok (.bipush 10, 2) := by decide +kernel
theorem dX9_season_146 : decode cX9_season 146 = .ok (.iload 6, 2) := by decide +kernel
theorem dX9_season_148 : decode cX9_season 148 = .ok (.imul, 1) := by decide +kernel
theorem dX9_season_149 : decode cX9_season 149 = .ok (.iload 7, 2) := by decide +kernel
theorem dX9_season_151 : decode cX9_season 151 = .ok (.iastore, 1) := by decide +kernel
theorem dX9_season_152 : decode cX9_season 152 = .ok (.aload_n 0, 1) := by decide +kernel
theorem dX9_season_153 : decode cX9_season 153 = .ok (.getfield 114, 3) := by decide +kernel
theorem dX9_season_156 : decode cX9_season 156 = .ok (.bipush 10, 2) := by decide +kernel
theorem dX9_season_158 : decode cX9_season 158 = .ok (.iload 6, 2) := by decide +kernel
theorem dX9_season_160 : decode cX9_season 160 = .ok (.imul, 1) := by decide +kernel
theorem dX9_season_161 : decode cX9_season 161 = .ok (.iconst 1, 1) := by decide +kernel
theorem dX9_season_162 : decode cX9_season 162 = .ok (.iadd, 1) := by decide +kernel
theorem dX9_season_163 : decode cX9_season 163 = .ok (.iload 8, 2) := by decide +kernel
theorem dX9_season_165 : decode cX9_season 165 = .ok (.ifCond .eq 10, 3) := by decide +kernel
theorem dX9_season_168 : decode cX9_season 168 = .ok (.aload_n 0, 1) := by decide +kernel
theorem dX9_season_169 : decode cX9_season 169 = .ok (.getfield 376, 3) := by decide +kernel
theorem dX9_season_172 : decode cX9_season 172 = .ok (.goto 4, 3) := by decide +kernel
theorem dX9_season_175 : decode cX9_season 175 = .ok (.iconst (-1), 1) := by decide +kernel
theorem dX9_season_176 : decode cX9_season 176 = .ok (.iastore, 1) := by decide +kernel
theorem dX9_season_177 : decode cX9_season 177 = .ok (.iconst 0, 1) := by decide +kernel
theorem dX9_season_178 : decode cX9_season 178 = .ok (.istore 9, 2) := by decide +kernel
theorem dX9_season_180 : decode cX9_season 180 = .ok (.iload 9, 2) := by decide +kernel
theorem dX9_season_182 : decode cX9_season 182 = .ok (.bipush 8, 2) := by decide +kernel
theorem dX9_season_184 : decode cX9_season 184 = .ok (.if_icmp .ge 51, 3) := by decide +kernel
theorem dX9_season_187 : decode cX9_season 187 = .ok (.aload_n 0, 1) := by decide +kernel
theorem dX9_season_188 : decode cX9_season 188 = .ok (.getfield 114, 3) := by decide +kernel
theorem dX9_season_191 : decode cX9_season 191 = .ok (.bipush 10, 2) := by decide +kernel
theorem dX9_season_193 : decode cX9_season 193 = .ok (.iload 6, 2) := by decide +kernel
theorem dX9_season_195 : decode cX9_season 195 = .ok (.imul, 1) := by decide +kernel
theorem dX9_season_196 : decode cX9_season 196 = .ok (.iconst 2, 1) := by decide +kernel
theorem dX9_season_197 : decode cX9_season 197 = .ok (.iadd, 1) := by decide +kernel
theorem dX9_season_198 : decode cX9_season 198 = .ok (.iload 9, 2) := by decide +kernel
theorem dX9_season_200 : decode cX9_season 200 = .ok (.iadd, 1) := by decide +kernel
theorem dX9_season_201 : decode cX9_season 201 = .ok (.iload 8, 2) := by decide +kernel
theorem dX9_season_203 : decode cX9_season 203 = .ok (.ifCond .eq 24, 3) := by decide +kernel
theorem dX9_season_206 : decode cX9_season 206 = .ok (.iload 9, 2) := by decide +kernel
theorem dX9_season_208 : decode cX9_season 208 = .ok (.aload_n 0, 1) := by decide +kernel
theorem dX9_season_209 : decode cX9_season 209 = .ok (.getfield 13, 3) := by decide +kernel
theorem dX9_season_212 : decode cX9_season 212 = .ok (.iconst 1, 1) := by decide +kernel
theorem dX9_season_213 : decode cX9_season 213 = .ok (.iaload, 1) := by decide +kernel
theorem dX9_season_214 : decode cX9_season 214 = .ok (.if_icmp .ge 13, 3) := by decide +kernel
theorem dX9_season_217 : decode cX9_season 217 = .ok (.aload_n 0, 1) := by decide +kernel
theorem dX9_season_218 : decode cX9_season 218 = .ok (.getfield 107, 3) := by decide +kernel
theorem dX9_season_221 : decode cX9_season 221 = .ok (.iload 9, 2) := by decide +kernel
theorem dX9_season_223 : decode cX9_season 223 = .ok (.iaload, 1) := by decide +kernel
theorem dX9_season_224 : decode cX9_season 224 = .ok (.goto 4, 3) := by decide +kernel
theorem dX9_season_227 : decode cX9_season 227 = .ok (.iconst (-1), 1) := by decide +kernel
theorem dX9_season_228 : decode cX9_season 228 = .ok (.iastore, 1) := by decide +kernel
theorem dX9_season_229 : decode cX9_season 229 = .ok (.iinc 9 1, 3) := by decide +kernel
theorem dX9_season_232 : decode cX9_season 232 = .ok (.goto (-52), 3) := by decide +kernel
theorem dX9_season_235 : decode cX9_season 235 = .ok (.iload 5, 2) := by decide +kernel
theorem dX9_season_237 : decode cX9_season 237 = .ok (.iload 8, 2) := by decide +kernel
theorem dX9_season_239 : decode cX9_season 239 = .ok (.ifCond .eq 7, 3) := by decide +kernel
theorem dX9_season_242 : decode cX9_season 242 = .ok (.iconst 0, 1) := by decide +kernel
theorem dX9_season_243 : decode cX9_season 243 = .ok (.goto 4, 3) := by decide +kernel
theorem dX9_season_246 : decode cX9_season 246 = .ok (.iconst 1, 1) := by decide +kernel
theorem dX9_season_247 : decode cX9_season 247 = .ok (.iadd, 1) := by decide +kernel
theorem dX9_season_248 : decode cX9_season 248 = .ok (.istore 5, 2) := by decide +kernel
theorem dX9_season_250 : decode cX9_season 250 = .ok (.aload_n 0, 1) := by decide +kernel
theorem dX9_season_251 : decode cX9_season 251 = .ok (.iload 6, 2) := by decide +kernel
theorem dX9_season_253 : decode cX9_season 253 = .ok (.invokevirtual 463, 3) := by decide +kernel
theorem dX9_season_256 : decode cX9_season 256 = .ok (.iinc 6 1, 3) := by decide +kernel
theorem dX9_season_259 : decode cX9_season 259 = .ok (.goto (-211), 3) := by decide +kernel
theorem dX9_season_262 : decode cX9_season 262 = .ok (.aload_n 0, 1) := by decide +kernel
theorem dX9_season_263 : decode cX9_season 263 = .ok (.iload_n 2, 1) := by decide +kernel
theorem dX9_season_264 : decode cX9_season 264 = .ok (.putfield 466, 3) := by decide +kernel
theorem dX9_season_267 : decode cX9_season 267 = .ok (.aload_n 0, 1) := by decide +kernel
theorem dX9_season_268 : decode cX9_season 268 = .ok (.aload_n 0, 1) := by decide +kernel
theorem dX9_season_269 : decode cX9_season 269 = .ok (.getfield 13, 3) := by decide +kernel
theorem dX9_season_272 : decode cX9_season 272 = .ok (.iconst 0, 1) := by decide +kernel
theorem dX9_season_273 : decode cX9_season 273 = .ok (.iaload, 1) := by decide +kernel
theorem dX9_season_274 : decode cX9_season 274 = .ok (.putfield 469, 3) := by decide +kernel
theorem dX9_season_277 : decode cX9_season 277 = .ok (.aload_n 0, 1) := by decide +kernel
theorem dX9_season_278 : decode cX9_season 278 = .ok (.aload_n 0, 1) := by decide +kernel
theorem dX9_season_279 : decode cX9_season 279 = .ok (.getfield 13, 3) := by decide +kernel
theorem dX9_season_282 : decode cX9_season 282 = .ok (.iconst 1, 1) := by decide +kernel
theorem dX9_season_283 : decode cX9_season 283 = .ok (.iaload, 1) := by decide +kernel
theorem dX9_season_284 : decode cX9_season 284 = .ok (.putfield 472, 3) := by decide +kernel
theorem dX9_season_287 : decode cX9_season 287 = .ok (.iconst 0, 1) := by decide +kernel
theorem dX9_season_288 : decode cX9_season 288 = .ok (.istore 6, 2) := by decide +kernel
theorem dX9_season_290 : decode cX9_season 290 = .ok (.iload 6, 2) := by decide +kernel
theorem dX9_season_292 : decode cX9_season 292 = .ok (.bipush 64, 2) := by decide +kernel
theorem dX9_season_294 : decode cX9_season 294 = .ok (.if_icmp .ge 23, 3) := by decide +kernel
theorem dX9_season_297 : decode cX9_season 297 = .ok (.aload_n 0, 1) := by decide +kernel
theorem dX9_season_298 : decode cX9_season 298 = .ok (.getfield 117, 3) := by decide +kernel
theorem dX9_season_301 : decode cX9_season 301 = .ok (.iload 6, 2) := by decide +kernel
theorem dX9_season_303 : decode cX9_season 303 = .ok (.aload_n 0, 1) := by decide +kernel
theorem dX9_season_304 : decode cX9_season 304 = .ok (.getfield 86, 3) := by decide +kernel
theorem dX9_season_307 : decode cX9_season 307 = .ok (.iload 6, 2) := by decide +kernel
theorem dX9_season_309 : decode cX9_season 309 = .ok (.iaload, 1) := by decide +kernel
theorem dX9_season_310 : decode cX9_season 310 = .ok (.iastore, 1) := by decide +kernel
theorem dX9_season_311 : decode cX9_season 311 = .ok (.iinc 6 1, 3) := by decide +kernel
theorem dX9_season_314 : decode cX9_season 314 = .ok (.goto (-24), 3) := by decide +kernel
theorem dX9_season_317 : decode cX9_season 317 = .ok (.aload_n 0, 1) := by decide +kernel
theorem dX9_season_318 : decode cX9_season 318 = .ok (.iload 5, 2) := by decide +kernel
theorem dX9_season_320 : decode cX9_season 320 = .ok (.invokevirtual 137, 3) := by decide +kernel
theorem dX9_season_323 : decode cX9_season 323 = .ok (.ireturn, 1) := by decide +kernel
def bX9_season_0 (l : Launch) (E : Ev) (d : Nat) (Q : Option Value → Hp → Prop) : Kt := k_aload 0 (k_push (.int 0) (k_putI 9 55 0 (k_iload 1 (k_i2l (k_push (.long 0) (k_push (.long 1000000) (k_callS l E YX9_in d 0 0 3 (k_if_eq (Go l E YX9_season (d + 1) 0 0 Q 0 0 29) (k_iload 2 (k_i2l (k_push (.long 1) (k_push (.long 40) (k_callS l E YX9_in d 0 0 3 (k_if_ne (k_aload 0 (k_callV l E 9 55 YX9_asIs d 0 0 0 (k_iload 1 (k_i2l (k_lstore 3 (k_push (.int 0) (k_istore 5 (k_push (.int 0) (k_istore 6 (Go l E YX9_season (d + 1) 0 0 Q 0 0 48)))))))))) (Go l E YX9_season (d + 1) 0 0 Q 0 0 29)))))))))))))))
set_option maxRecDepth 100000 in
set_option maxHeartbeats 4000000 in
theorem gX9_season_0 {l : Launch} {E : Ev} {d : Nat} {Q : Option Value → Hp → Prop} {ls : Lv} {st : List Value} {h : Hp} (hB : bX9_season_0 l E d Q ls st h) : Go l E YX9_season (d + 1) 0 0 Q 0 0 0 ls st h :=
  (sd_aload_n (i := 0) rfl dX9_season_0 (sd_iconst (v := 0) (by decide) dX9_season_1 (sd_putI clsX9 (f := 0) (by decide) (fun _ _ _ => rfl) rfl (Or.inl rfl) mw_1178 dX9_season_2 (sd_iload_n (i := 1) rfl dX9_season_5 (sd_i2l dX9_season_6 (sd_lconst (v := 0) (by decide) dX9_season_7 (sd_ldc2 (v := 1000000) mw_1467 dX9_season_8 (sd_callS (Y' := YX9_in) (mc' := 0) (ms' := 0) (n := 3) mw_1348 mw_1349 mw_108 mw_1350 (okmX9_in) (by decide) (Nat.le_refl _) (by decide) (by decide) dX9_season_11 (sd_if_eq (tgt := 29) (by decide) dX9_season_14 (Sd.go) (sd_iload_n (i := 2) rfl dX9_season_17 (sd_i2l dX9_season_18 (sd_lconst (v := 1) (by decide) dX9_season_19 (sd_ldc2 (v := 40) mw_1770 dX9_season_20 (sd_callS (Y' := YX9_in) (mc' := 0) (ms' := 0) (n := 3) mw_1348 mw_1349 mw_108 mw_1350 (okmX9_in) (by decide) (Nat.le_refl _) (by decide) (by decide) dX9_season_23 (sd_if_ne (tgt := 35) (by decide) dX9_season_26 (sd_aload_n (i := 0) rfl dX9_season_35 (sd_callV (Y' := YX9_asIs) (mc' := 0) (ms' := 0) (n := 0) clsX9.1 mw_1559 mw_1561 mw_71 mw_108 mw_1562 rfl (okmX9_asIs) (by decide) (Nat.le_refl _) (by decide) (by decide) dX9_season_36 (sd_iload_n (i := 1) rfl dX9_season_39 (sd_i2l dX9_season_40 (sd_lstore_n (i := 3) rfl (by decide) dX9_season_41 (sd_iconst (v := 0) (by decide) dX9_season_42 (sd_istore (i := 5) (by decide) dX9_season_43 (sd_iconst (v := 0) (by decide) dX9_season_45 (sd_istore (i := 6) (by decide) dX9_season_46 (Sd.go)))))))))) (Sd.go))))))))))))))) : Sd l E YX9_season (d + 1) 0 0 Q 0 0 0 (bX9_season_0 l E d Q)) ls st h hB
def bX9_season_29 (l : Launch) (E : Ev) (d : Nat) (Q : Option Value → Hp → Prop) : Kt := k_aload 0 (k_push (.int (-1)) (k_callV l E 9 55 YX9_tell d 0 0 1 (k_iret .int Q)))
set_option maxRecDepth 100000 in
set_option maxHeartbeats 4000000 in
theorem gX9_season_29 {l : Launch} {E : Ev} {d : Nat} {Q : Option Value → Hp → Prop} {ls : Lv} {st : List Value} {h : Hp} (hB : bX9_season_29 l E d Q ls st h) : Go l E YX9_season (d + 1) 0 0 Q 0 0 29 ls st h :=
  (sd_aload_n (i := 0) rfl dX9_season_29 (sd_iconst (v := (-1)) (by decide) dX9_season_30 (sd_callV (Y' := YX9_tell) (mc' := 0) (ms' := 0) (n := 1) clsX9.1 mw_1351 mw_1353 mw_45 mw_108 mw_1354 rfl (okmX9_tell) (by decide) (Nat.le_refl _) (by decide) (by decide) dX9_season_31 (sd_iret (ty := .int) rfl (by decide) (by decide) dX9_season_34))) : Sd l E YX9_season (d + 1) 0 0 Q 0 0 29 (bX9_season_29 l E d Q)) ls st h hB
def bX9_season_48 (l : Launch) (E : Ev) (d : Nat) (Q : Option Value → Hp → Prop) : Kt := k_iload 6 (k_iload 2 (k_icmp_ge (k_aload 0 (k_iload 2 (k_putI 9 55 52 (k_aload 0 (k_aload 0 (k_getR 9 55 3 (k_push (.int 0) (k_iaload (k_putI 9 55 53 (k_aload 0 (k_aload 0 (k_getR 9 55 3 (k_push (.int 1) (k_iaload (k_putI 9 55 54 (k_push (.int 0) (k_istore 6 (Go l E YX9_season (d + 1) 0 0 Q 0 0 290)))))))))))))))))) (k_push (.int 0) (k_istore 7 (k_push (.int 0) (k_istore 8 (Go l E YX9_season (d + 1) 0 0 Q 0 0 60)))))))
set_option maxRecDepth 100000 in
set_option maxHeartbeats 4000000 in
theorem gX9_season_48 {l : Launch} {E : Ev} {d : Nat} {Q : Option Value → Hp → Prop} {ls : Lv} {st : List Value} {h : Hp} (hB : bX9_season_48 l E d Q ls st h) : Go l E YX9_season (d + 1) 0 0 Q 0 0 48 ls st h :=
  (sd_iload (n := 6) dX9_season_48 (sd_iload_n (i := 2) rfl dX9_season_50 (sd_icmp_ge (tgt := 262) (by decide) dX9_season_51 (sd_aload_n (i := 0) rfl dX9_season_262 (sd_iload_n (i := 2) rfl dX9_season_263 (sd_putI clsX9 (f := 52) (by decide) (fun _ _ _ => rfl) rfl (Or.inl rfl) mw_1230 dX9_season_264 (sd_aload_n (i := 0) rfl dX9_season_267 (sd_aload_n (i := 0) rfl dX9_season_268 (sd_getR clsX9 (f := 3) (by decide) (fun _ _ _ => rfl) mw_1181 dX9_season_269 (sd_iconst (v := 0) (by decide) dX9_season_272 (sd_iaload dX9_season_273 (sd_putI clsX9 (f := 53) (by decide) (fun _ _ _ => rfl) rfl (Or.inl rfl) mw_1231 dX9_season_274 (sd_aload_n (i := 0) rfl dX9_season_277 (sd_aload_n (i := 0) rfl dX9_season_278 (sd_getR clsX9 (f := 3) (by decide) (fun _ _ _ => rfl) mw_1181 dX9_season_279 (sd_iconst (v := 1) (by decide) dX9_season_282 (sd_iaload dX9_season_283 (sd_putI clsX9 (f := 54) (by decide) (fun _ _ _ => rfl) rfl (Or.inl rfl) mw_1232 dX9_season_284 (sd_iconst (v := 0) (by decide) dX9_season_287 (sd_istore (i := 6) (by decide) dX9_season_288 (Sd.go)))))))))))))))))) (sd_iconst (v := 0) (by decide) dX9_season_54 (sd_istore (i := 7) (by decide) dX9_season_55 (sd_iconst (v := 0) (by decide) dX9_season_57 (sd_istore (i := 8) (by decide) dX9_season_58 (Sd.go))))))) : Sd l E YX9_season (d + 1) 0 0 Q 0 0 48 (bX9_season_48 l E d Q)) ls st h hB
def bX9_season_60 (l : Launch) (E : Ev) (d : Nat) (Q : Option Value → Hp → Prop) : Kt := k_iload 8 (k_aload 0 (k_getR 9 55 3 (k_push (.int 0) (k_iaload (k_icmp_ge (k_aload 0 (k_callV l E 9 55 YX9_find d 0 0 0 (k_aload 0 (k_iload 7 (k_callV l E 9 55 YX9_findFirst d 0 0 1 (k_istore 8 (k_aload 0 (k_getR 9 55 49 (k_push (.int 10) (k_iload 6 (k_imul (k_iload 7 (k_iastore (k_aload 0 (k_getR 9 55 49 (k_push (.int 10) (k_iload 6 (k_imul (k_push (.int 1) (k_iadd (k_iload 8 (k_if_eq (k_push (.int (-1)) (k_iastore (k_push (.int 0) (k_istore 9 (Go l E YX9_season (d + 1) 0 0 Q 0 0 180))))) (k_aload 0 (k_getI 9 55 41 (k_iastore (k_push (.int 0) (k_istore 9 (Go l E YX9_season (d + 1) 0 0 Q 0 0 180)))))))))))))))))))))))))))) (k_lload 3 (k_push (.long 1103) (k_lmul (k_push (.long 12345) (k_ladd (k_push (.long 1000003) (k_lrem (k_lstore 3 (k_iload 7 (k_lload 3 (k_push (.long 100) (k_lrem (k_aload 0 (k_getR 9 55 3 (k_push (.int 10) (k_push (.int 4) (k_iload 8 (k_imul (k_iadd (k_push (.int 3) (k_iadd (k_iaload (k_i2l (k_lcmp (k_if_ge (k_push (.int 0) (k_ior (k_istore 7 (k_iinc 8 1 (Go l E YX9_season (d + 1) 0 0 Q 0 0 60))))) (k_push (.int 1) (k_iload 8 (k_ishl (k_ior (k_istore 7 (k_iinc 8 1 (Go l E YX9_season (d + 1) 0 0 Q 0 0 60)))))))))))))))))))))))))))))))))))))
set_option maxRecDepth 100000 in
set_option maxHeartbeats 4000000 in
theorem gX9_season_60 {l : Launch} {E : Ev} {d : Nat} {Q : Option Value → Hp → Prop} {ls : Lv} {st : List Value} {h : Hp} (hB : bX9_season_60 l E d Q ls st h) : Go l E YX9_season (d + 1) 0 0 Q 0 0 60 ls st h :=
  (sd_iload (n := 8) dX9_season_60 (sd_aload_n (i := 0) rfl dX9_season_62 (sd_getR clsX9 (f := 3) (by decide) (fun _ _ _ => rfl) mw_1181 dX9_season_63 (sd_iconst (v := 0) (by decide) dX9_season_66 (sd_iaload dX9_season_67 (sd_icmp_ge (tgt := 128) (by decide) dX9_season_68 (sd_aload_n (i := 0) rfl dX9_season_128 (sd_callV (Y' := YX9_find) (mc' := 0) (ms' := 0) (n := 0) clsX9.1 mw_1563 mw_1565 mw_72 mw_108 mw_1566 rfl (okmX9_find) (by decide) (Nat.le_refl _) (by decide) (by decide) dX9_season_129 (sd_aload_n (i := 0) rfl dX9_season_132 (sd_iload (n := 7) dX9_season_133 (sd_callV (Y' := YX9_findFirst) (mc' := 0) (ms' := 0) (n := 1) clsX9.1 mw_1630 mw_1632 mw_84 mw_108 mw_1633 rfl (okmX9_findFirst) (by decide) (Nat.le_refl _) (by decide) (by decide) dX9_season_135 (sd_istore (i := 8) (by decide) dX9_season_138 (sd_aload_n (i := 0) rfl dX9_season_140 (sd_getR clsX9 (f := 49) (by decide) (fun _ _ _ => rfl) mw_1227 dX9_season_141 (sd_bipush (v := 10) (by decide) dX9_season_144 (sd_iload (n := 6) dX9_season_146 (sd_imul dX9_season_148 (sd_iload (n := 7) dX9_season_149 (sd_iastore dX9_season_151 (sd_aload_n (i := 0) rfl dX9_season_152 (sd_getR clsX9 (f := 49) (by decide) (fun _ _ _ => rfl) mw_1227 dX9_season_153 (sd_bipush (v := 10) (by decide) dX9_season_156 (sd_iload (n := 6) dX9_season_158 (sd_imul dX9_season_160 (sd_iconst (v := 1) (by decide) dX9_season_161 (sd_iadd dX9_season_162 (sd_iload (n := 8) dX9_season_163 (sd_if_eq (tgt := 175) (by decide) dX9_season_165 (sd_iconst (v := (-1)) (by decide) dX9_season_175 (sd_iastore dX9_season_176 (sd_iconst (v := 0) (by decide) dX9_season_177 (sd_istore (i := 9) (by decide) dX9_season_178 (Sd.go))))) (sd_aload_n (i := 0) rfl dX9_season_168 (sd_getI clsX9 (f := 41) (by decide) (fun _ _ _ => rfl) mw_1219 dX9_season_169 (sd_goto (tgt := 176) (by decide) dX9_season_172 (sd_iastore dX9_season_176 (sd_iconst (v := 0) (by decide) dX9_season_177 (sd_istore (i := 9) (by decide) dX9_season_178 (Sd.go))))))))))))))))))))))))))))) (sd_lload_n (i := 3) rfl dX9_season_71 (sd_ldc2 (v := 1103) mw_1771 dX9_season_72 (sd_lmul dX9_season_75 (sd_ldc2 (v := 12345) mw_1772 dX9_season_76 (sd_ladd dX9_season_79 (sd_ldc2 (v := 1000003) mw_1773 dX9_season_80 (sd_lrem dX9_season_83 (sd_lstore_n (i := 3) rfl (by decide) dX9_season_84 (sd_iload (n := 7) dX9_season_85 (sd_lload_n (i := 3) rfl dX9_season_87 (sd_ldc2 (v := 100) mw_1366 dX9_season_88 (sd_lrem dX9_season_91 (sd_aload_n (i := 0) rfl dX9_season_92 (sd_getR clsX9 (f := 3) (by decide) (fun _ _ _ => rfl) mw_1181 dX9_season_93 (sd_bipush (v := 10) (by decide) dX9_season_96 (sd_iconst (v := 4) (by decide) dX9_season_98 (sd_iload (n := 8) dX9_season_99 (sd_imul dX9_season_101 (sd_iadd dX9_season_102 (sd_iconst (v := 3) (by decide) dX9_season_103 (sd_iadd dX9_season_104 (sd_iaload dX9_season_105 (sd_i2l dX9_season_106 (sd_lcmp dX9_season_107 (sd_if_ge (tgt := 118) (by decide) dX9_season_108 (sd_iconst (v := 0) (by decide) dX9_season_118 (sd_ior dX9_season_119 (sd_istore (i := 7) (by decide) dX9_season_120 (sd_iinc (i := 8) (v := 1) (by decide) (by decide) dX9_season_122 (sd_goto (tgt := 60) (by decide) dX9_season_125 (Sd.go)))))) (sd_iconst (v := 1) (by decide) dX9_season_111 (sd_iload (n := 8) dX9_season_112 (sd_ishl dX9_season_114 (sd_goto (tgt := 119) (by decide) dX9_season_115 (sd_ior dX9_season_119 (sd_istore (i := 7) (by decide) dX9_season_120 (sd_iinc (i := 8) (v := 1) (by decide) (by decide) dX9_season_122 (sd_goto (tgt := 60) (by decide) dX9_season_125 (Sd.go))))))))))))))))))))))))))))))))))))))) : Sd l E YX9_season (d + 1) 0 0 Q 0 0 60 (bX9_season_60 l E d Q)) ls st h hB
def bX9_season_180 (l : Launch) (E : Ev) (d : Nat) (Q : Option Value → Hp → Prop) : Kt := k_iload 9 (k_push (.int 8) (k_icmp_ge (k_iload 5 (k_iload 8 (k_if_eq (k_push (.int 1) (Go l E YX9_season (d + 1) 0 0 Q 0 0 247)) (k_push (.int 0) (Go l E YX9_season (d + 1) 0 0 Q 0 0 247))))) (k_aload 0 (k_getR 9 55 49 (k_push (.int 10) (k_iload 6 (k_imul (k_push (.int 2) (k_iadd (k_iload 9 (k_iadd (k_iload 8 (k_if_eq (k_push (.int (-1)) (k_iastore (k_iinc 9 1 (Go l E YX9_season (d + 1) 0 0 Q 0 0 180)))) (k_iload 9 (k_aload 0 (k_getR 9 55 3 (k_push (.int 1) (k_iaload (k_icmp_ge (k_push (.int (-1)) (k_iastore (k_iinc 9 1 (Go l E YX9_season (d + 1) 0 0 Q 0 0 180)))) (k_aload 0 (k_getR 9 55 44 (k_iload 9 (k_iaload (k_iastore (k_iinc 9 1 (Go l E YX9_season (d + 1) 0 0 Q 0 0 180))))))))))))))))))))))))))
set_option maxRecDepth 100000 in
set_option maxHeartbeats 4000000 in
theorem gX9_season_180 {l : Launch} {E : Ev} {d : Nat} {Q : Option Value → Hp → Prop} {ls : Lv} {st : List Value} {h : Hp} (hB : bX9_season_180 l E d Q ls st h) : Go l E YX9_season (d + 1) 0 0 Q 0 0 180 ls st h :=
  (sd_iload (n := 9) dX9_season_180 (sd_bipush (v := 8) (by decide) dX9_season_182 (sd_icmp_ge (tgt := 235) (by decide) dX9_season_184 (sd_iload (n := 5) dX9_season_235 (sd_iload (n := 8) dX9_season_237 (sd_if_eq (tgt := 246) (by decide) dX9_season_239 (sd_iconst (v := 1) (by decide) dX9_season_246 (Sd.go)) (sd_iconst (v := 0) (by decide) dX9_season_242 (sd_goto (tgt := 247) (by decide) dX9_season_243 (Sd.go)))))) (sd_aload_n (i := 0) rfl dX9_season_187 (sd_getR clsX9 (f := 49) (by decide) (fun _ _ _ => rfl) mw_1227 dX9_season_188 (sd_bipush (v := 10) (by decide) dX9_season_191 (sd_iload (n := 6) dX9_season_193 (sd_imul dX9_season_195 (sd_iconst (v := 2) (by decide) dX9_season_196 (sd_iadd dX9_season_197 (sd_iload (n := 9) dX9_season_198 (sd_iadd dX9_season_200 (sd_iload (n := 8) dX9_season_201 (sd_if_eq (tgt := 227) (by decide) dX9_season_203 (sd_iconst (v := (-1)) (by decide) dX9_season_227 (sd_iastore dX9_season_228 (sd_iinc (i := 9) (v := 1) (by decide) (by decide) dX9_season_229 (sd_goto (tgt := 180) (by decide) dX9_season_232 (Sd.go))))) (sd_iload (n := 9) dX9_season_206 (sd_aload_n (i := 0) rfl dX9_season_208 (sd_getR clsX9 (f := 3) (by decide) (fun _ _ _ => rfl) mw_1181 dX9_season_209 (sd_iconst (v := 1) (by decide) dX9_season_212 (sd_iaload dX9_season_213 (sd_icmp_ge (tgt := 227) (by decide) dX9_season_214 (sd_iconst (v := (-1)) (by decide) dX9_season_227 (sd_iastore dX9_season_228 (sd_iinc (i := 9) (v := 1) (by decide) (by decide) dX9_season_229 (sd_goto (tgt := 180) (by decide) dX9_season_232 (Sd.go))))) (sd_aload_n (i := 0) rfl dX9_season_217 (sd_getR clsX9 (f := 44) (by decide) (fun _ _ _ => rfl) mw_1222 dX9_season_218 (sd_iload (n := 9) dX9_season_221 (sd_iaload dX9_season_223 (sd_goto (tgt := 228) (by decide) dX9_season_224 (sd_iastore dX9_season_228 (sd_iinc (i := 9) (v := 1) (by decide) (by decide) dX9_season_229 (sd_goto (tgt := 180) (by decide) dX9_season_232 (Sd.go)))))))))))))))))))))))))))) : Sd l E YX9_season (d + 1) 0 0 Q 0 0 180 (bX9_season_180 l E d Q)) ls st h hB
def bX9_season_247 (l : Launch) (E : Ev) (d : Nat) (Q : Option Value → Hp → Prop) : Kt := k_iadd (k_istore 5 (k_aload 0 (k_iload 6 (k_callV l E 9 55 YX9_goOn d 0 0 1 (k_iinc 6 1 (Go l E YX9_season (d + 1) 0 0 Q 0 0 48))))))
set_option maxRecDepth 100000 in
set_option maxHeartbeats 4000000 in
theorem gX9_season_247 {l : Launch} {E : Ev} {d : Nat} {Q : Option Value → Hp → Prop} {ls : Lv} {st : List Value} {h : Hp} (hB : bX9_season_247 l E d Q ls st h) : Go l E YX9_season (d + 1) 0 0 Q 0 0 247 ls st h :=
  (sd_iadd dX9_season_247 (sd_istore (i := 5) (by decide) dX9_season_248 (sd_aload_n (i := 0) rfl dX9_season_250 (sd_iload (n := 6) dX9_season_251 (sd_callV (Y' := YX9_goOn) (mc' := 0) (ms' := 0) (n := 1) clsX9.1 mw_1774 mw_1776 mw_98 mw_108 mw_1777 rfl (okmX9_goOn) (by decide) (Nat.le_refl _) (by decide) (by decide) dX9_season_253 (sd_iinc (i := 6) (v := 1) (by decide) (by decide) dX9_season_256 (sd_goto (tgt := 48) (by decide) dX9_season_259 (Sd.go))))))) : Sd l E YX9_season (d + 1) 0 0 Q 0 0 247 (bX9_season_247 l E d Q)) ls st h hB
def bX9_season_290 (l : Launch) (E : Ev) (d : Nat) (Q : Option Value → Hp → Prop) : Kt := k_iload 6 (k_push (.int 64) (k_icmp_ge (k_aload 0 (k_iload 5 (k_callV l E 9 55 YX9_tell d 0 0 1 (k_iret .int Q)))) (k_aload 0 (k_getR 9 55 50 (k_iload 6 (k_aload 0 (k_getR 9 55 33 (k_iload 6 (k_iaload (k_iastore (k_iinc 6 1 (Go l E YX9_season (d + 1) 0 0 Q 0 0 290))))))))))))
set_option maxRecDepth 100000 in
set_option maxHeartbeats 4000000 in
theorem gX9_season_290 {l : Launch} {E : Ev} {d : Nat} {Q : Option Value → Hp → Prop} {ls : Lv} {st : List Value} {h : Hp} (hB : bX9_season_290 l E d Q ls st h) : Go l E YX9_season (d + 1) 0 0 Q 0 0 290 ls st h :=
  (sd_iload (n := 6) dX9_season_290 (sd_bipush (v := 64) (by decide) dX9_season_292 (sd_icmp_ge (tgt := 317) (by decide) dX9_season_294 (sd_aload_n (i := 0) rfl dX9_season_317 (sd_iload (n := 5) dX9_season_318 (sd_callV (Y' := YX9_tell) (mc' := 0) (ms' := 0) (n := 1) clsX9.1 mw_1351 mw_1353 mw_45 mw_108 mw_1354 rfl (okmX9_tell) (by decide) (Nat.le_refl _) (by decide) (by decide) dX9_season_320 (sd_iret (ty := .int) rfl (by decide) (by decide) dX9_season_323)))) (sd_aload_n (i := 0) rfl dX9_season_297 (sd_getR clsX9 (f := 50) (by decide) (fun _ _ _ => rfl) mw_1228 dX9_season_298 (sd_iload (n := 6) dX9_season_301 (sd_aload_n (i := 0) rfl dX9_season_303 (sd_getR clsX9 (f := 33) (by decide) (fun _ _ _ => rfl) mw_1211 dX9_season_304 (sd_iload (n := 6) dX9_season_307 (sd_iaload dX9_season_309 (sd_iastore dX9_season_310 (sd_iinc (i := 6) (v := 1) (by decide) (by decide) dX9_season_311 (sd_goto (tgt := 290) (by decide) dX9_season_314 (Sd.go))))))))))))) : Sd l E YX9_season (d + 1) 0 0 Q 0 0 290 (bX9_season_290 l E d Q)) ls st h hB
theorem eX9_season {l : Launch} {E : Ev} {d : Nat} {Q : Option Value → Hp → Prop} {h : Hp} {a0 : Nat} {x1 : Int32} {x2 : Int32} (hk : Go l E YX9_season d 0 0 Q 0 0 0 [some (.ref a0), some (.int x1), some (.int x2), none, none, none, none, none, none, none] [] h) : GoM l E YX9_season d 0 0 [.ref a0, .int x1, .int x2] h Q := GoM.of (by decide +kernel) rfl (by simp [entA, YX9_season]) hk
theorem dX9_goOn_0 : decode cX9_goOn 0 = .ok (.iconst 0, 1) := by decide +kernel
theorem dX9_goOn_1 : decode cX9_goOn 1 = .ok (.istore_n 2, 1) := by decide +kernel
theorem dX9_goOn_2 : decode cX9_goOn 2 = .ok (.iload_n 2, 1) := by decide +kernel
theorem dX9_goOn_3 : decode cX9_goOn 3 = .ok (.aload_n 0, 1) := by decide +kernel
theorem dX9_goOn_4 : decode cX9_goOn 4 = .ok (.getfield 13, 3) := by decide +kernel
theorem dX9_goOn_7 : decode cX9_goOn 7 = .ok (.iconst 0, 1) := by decide +kernel
theorem dX9_goOn_8 : decode cX9_goOn 8 = .ok (.iaload, 1) := by decide +kernel
theorem dX9_goOn_9 : decode cX9_goOn 9 = .ok (.if_icmp .ge 131, 3) := by decide +kernel
theorem dX9_goOn_12 : decode cX9_goOn 12 = .ok (.iconst 0, 1) := by decide +kernel
theorem dX9_goOn_13 : decode cX9_goOn 13 = .ok (.istore_n 3, 1) := by decide +kernel
theorem dX9_goOn_14 : decode cX9_goOn 14 = .ok (.iload_n 3, 1) := by decide +kernel
theorem dX9_goOn_15 : decode cX9_goOn 15 = .ok (.aload_n 0, 1) := by decide +kernel
theorem dX9_goOn_16 : decode cX9_goOn 16 = .ok (.getfield 13, 3) := by decide +kernel
theorem dX9_goOn_19 : decode cX9_goOn 19 = .ok (.iconst 1, 1) := by decide +kernel
theorem dX9_goOn_20 : decode cX9_goOn 20 = .ok (.iaload, 1) := by decide +kernel
theorem dX9_goOn_21 : decode cX9_goOn 21 = .ok (.if_icmp .ge 113, 3) := by decide +kernel
theorem dX9_goOn_24 : decode cX9_goOn 24 = .ok (.bipush 8, 2) := by decide +kernel
theorem dX9_goOn_26 : decode cX9_goOn 26 = .ok (.iload_n 2, 1) := by decide +kernel
theorem dX9_goOn_27 : decode cX9_goOn 27 = .ok (.imul, 1) := by decide +kernel
theorem dX9_goOn_28 : decode cX9_goOn 28 = .ok (.iload_n 3, 1) := by decide +kernel
theorem dX9_goOn_29 : decode cX9_goOn 29 = .ok (.iadd, 1) := by decide +kernel
theorem dX9_goOn_30 : decode cX9_goOn 30 = .ok (.istore 4, 2) := by decide +kernel
theorem dX9_goOn_32 : decode cX9_goOn 32 = .ok (.aload_n 0, 1) := by decide +kernel
theorem dX9_goOn_33 : decode cX9_goOn 33 = .ok (.getfield 86, 3) := by decide +kernel
theorem dX9_goOn_36 : decode cX9_goOn 36 = .ok (.iload 4, 2) := by decide +kernel
theorem dX9_goOn_38 : decode cX9_goOn 38 = .ok (.iaload, 1) := by decide +kernel
theorem dX9_goOn_39 : decode cX9_goOn 39 = .ok (.aload_n 0, 1) := by decide +kernel
theorem dX9_goOn_40 : decode cX9_goOn 40 = .ok (.iconst 1, 1) := by decide +kernel
theorem dX9_goOn_41 : decode cX9_goOn 41 = .ok (.iload_n 2, 1) := by decide +kernel
theorem dX9_goOn_42 : decode cX9_goOn 42 = .ok (.iload_n 3, 1) := by decide +kernel
theorem dX9_goOn_43 : decode cX9_goOn 43 = .ok (.iconst 0, 1) := by decide +kernel
theorem dX9_goOn_44 : decode cX9_goOn 44 = .ok (.bipush 9, 2) := by decide +kernel
theorem dX9_goOn_46 : decode cX9_goOn 46 = .ok (.invokevirtual 345, 3) := by decide +kernel
theorem dX9_goOn_49 : decode cX9_goOn 49 = .ok (.isub, 1) := by decide +kernel
theorem dX9_goOn_50 : decode cX9_goOn 50 = .ok (.istore 5, 2) := by decide +kernel
theorem dX9_goOn_52 : decode cX9_goOn 52 = .ok (.aload_n 0, 1) := by decide +kernel
theorem dX9_goOn_53 : decode cX9_goOn 53 = .ok (.getfield 114, 3) := by decide +kernel
theorem dX9_goOn_56 : decode cX9_goOn 56 = .ok (.bipush 10, 2) := by decide +kernel
theorem dX9_goOn_58 : decode cX9_goOn 58 = .ok (.iload_n 1, 1) := by decide +kernel
theorem dX9_goOn_59 : decode cX9_goOn 59 = .ok (.imul, 1) := by decide +kernel
theorem dX9_goOn_60 : decode cX9_goOn 60 = .ok (.iconst 2, 1) := by decide +kernel
theorem dX9_goOn_61 : decode cX9_goOn 61 = .ok (.iadd, 1) := by decide +kernel
theorem dX9_goOn_62 : decode cX9_goOn 62 = .ok (.iload_n 3, 1) := by decide +kernel
theorem dX9_goOn_63 : decode cX9_goOn 63 = .ok (.iadd, 1) := by decide +kernel
theorem dX9_goOn_64 : decode cX9_goOn 64 = .ok (.iaload, 1) := by decide +kernel
theorem dX9_goOn_65 : decode cX9_goOn 65 = .ok (.iload_n 2, 1) := by decide +kernel
theorem dX9_goOn_66 : decode cX9_goOn 66 = .ok (.if_icmp .ne 7, 3) := by decide +kernel
theorem dX9_goOn_69 : decode cX9_goOn 69 = .ok (.iconst 1, 1) := by decide +kernel
theorem dX9_goOn_70 : decode cX9_goOn 70 = .ok (.goto 4, 3) := by decide +kernel
theorem dX9_goOn_73 : decode cX9_goOn 73 = .ok (.iconst 0, 1) := by decide +kernel
theorem dX9_goOn_74 : decode cX9_goOn 74 = .ok (.istore 6, 2) := by decide +kernel
theorem dX9_goOn_76 : decode cX9_goOn 76 = .ok (.aload_n 0, 1) := by decide +kernel
theorem dX9_goOn_77 : decode cX9_goOn 77 = .ok (.getfield 120, 3) := by decide +kernel
theorem dX9_goOn_80 : decode cX9_goOn 80 = .ok (.iload 4, 2) := by decide +kernel
theorem dX9_goOn_82 : decode cX9_goOn 82 = .ok (.iload 6, 2) := by decide +kernel
theorem dX9_goOn_84 : decode cX9_goOn 84 = .ok (.ifCond .eq 32, 3) := by decide +kernel
theorem dX9_goOn_87 : decode cX9_goOn 87 = .ok (.aload_n 0, 1) := by decide +kernel
theorem dX9_goOn_88 : decode cX9_goOn 88 = .ok (.getfield 86, 3) := by decide +kernel
theorem dX9_goOn_91 : decode cX9_goOn 91 = .ok (.iload 4, 2) := by decide +kernel
theorem dX9_goOn_93 : decode cX9_goOn 93 = .ok (.iaload, 1) := by decide +kernel
theorem dX9_goOn_94 : decode cX9_goOn 94 = .ok (.bipush 9, 2) := by decide +kernel
theorem dX9_goOn_96 : decode cX9_goOn 96 = .ok (.if_icmp .ge 15, 3) := by decide +kernel
theorem dX9_goOn_99 : decode cX9_goOn 99 = .ok (.aload_n 0, 1) := by decide +kernel
theorem dX9_goOn_100 : decode cX9_goOn 100 = .ok (.getfield 86, 3) := by decide +kernel
theorem dX9_goOn_103 : decode cX9_goOn 103 = .ok (.iload 4, 2) := by decide +kernel
theorem dX9_goOn_105 : decode cX9_goOn 105 = .ok (.iaload, 1) := by decide +kernel
theorem dX9_goOn_106 : decode cX9_goOn 106 = .ok (.iconst 1, 1) := by decide +kernel
theorem dX9_goOn_107 : decode cX9_goOn 107 = .ok (.iadd, 1) := by decide +kernel
theorem dX9_goOn_108 : decode cX9_goOn 108 = .ok (.goto 19, 3) := by decide +kernel
theorem dX9_goOn_111 : decode cX9_goOn 111 = .ok (.bipush 9, 2) := by decide +kernel
theorem dX9_goOn_113 : decode cX9_goOn 113 = .ok (.goto 14, 3) := by decide +kernel
theorem dX9_goOn_116 : decode cX9_goOn 116 = .ok (.iload 5, 2) := by decide +kernel
theorem dX9_goOn_118 : decode cX9_goOn 118 = .ok (.ifCond .ge 7, 3) := by decide +kernel
theorem dX9_goOn_121 : decode cX9_goOn 121 = .ok (.iconst 0, 1) := by decide +kernel
theorem dX9_goOn_122 : decode cX9_goOn 122 = .ok (.goto 5, 3) := by decide +kernel
theorem dX9_goOn_125 : decode cX9_goOn 125 = .ok (.iload 5, 2) := by decide +kernel
theorem dX9_goOn_127 : decode cX9_goOn 127 = .ok (.iastore, 1) := by decide +kernel
theorem dX9_goOn_128 : decode cX9_goOn 128 = .ok (.iinc 3 1, 3) := by decide +kernel
theorem dX9_goOn_131 : decode cX9_goOn 131 = .ok (.goto (-117), 3) := by decide +kernel
theorem dX9_goOn_134 : decode cX9_goOn 134 = .ok (.iinc 2 1, 3) := by decide +kernel
theorem dX9_goOn_137 : decode cX9_goOn 137 = .ok (.goto (-135), 3) := by decide +kernel
theorem dX9_goOn_140 : decode cX9_goOn 140 = .ok (.iconst 0, 1) := by decide +kernel
theorem dX9_goOn_141 : decode cX9_goOn 141 = .ok (.istore_n 2, 1) := by decide +kernel
theorem dX9_goOn_142 : decode cX9_goOn 142 = .ok (.iload_n 2, 1) := by decide +kernel
theorem dX9_goOn_143 : decode cX9_goOn 143 = .ok (.aload_n 0, 1) := by decide +kernel
theorem dX9_goOn_144 : decode cX9_goOn 144 = .ok (.getfield 13, 3) := by decide +kernel
theorem dX9_goOn_147 : decode cX9_goOn 147 = .ok (.iconst 0, 1) := by decide +kernel
theorem dX9_goOn_148 : decode cX9_goOn 148 = .ok (.iaload, 1) := by decide +kernel
theorem dX9_goOn_149 : decode cX9_goOn 149 = .ok (.if_icmp .ge 49, 3) := by decide +kernel
theorem dX9_goOn_152 : decode cX9_goOn 152 = .ok (.iconst 0, 1) := by decide +kernel
theorem dX9_goOn_153 : decode cX9_goOn 153 = .ok (.istore_n 3, 1) := by decide +kernel
theorem dX9_goOn_154 : decode cX9_goOn 154 = .ok (.iload_n 3, 1) := by decide +kernel
theorem dX9_goOn_155 : decode cX9_goOn 155 = .ok (.aload_n 0, 1) := by decide +kernel
theorem dX9_goOn_156 : decode cX9_goOn 156 = .ok (.getfield 13, 3) := by decide +kernel
theorem dX9_goOn_159 : decode cX9_goOn 159 = .ok (.iconst 1, 1) := by decide +kernel
theorem dX9_goOn_160 : decode cX9_goOn 160 = .ok (.iaload, 1) := by decide +kernel
theorem dX9_goOn_161 : decode cX9_goOn 161 = .ok (.if_icmp .ge 31, 3) := by decide +kernel
theorem dX9_goOn_164 : decode cX9_goOn 164 = .ok (.aload_n 0, 1) := by decide +kernel
theorem dX9_goOn_165 : decode cX9_goOn 165 = .ok (.getfield 86, 3) := by decide +kernel
theorem dX9_goOn_168 : decode cX9_goOn 168 = .ok (.bipush 8, 2) := by decide +kernel
theorem dX9_goOn_170 : decode cX9_goOn 170 = .ok (.iload_n 2, 1) := by decide +kernel
theorem dX9_goOn_171 : decode cX9_goOn 171 = .ok (.imul, 1) := by decide +kernel
theorem dX9_goOn_172 : decode cX9_goOn 172 = .ok (.iload_n 3, 1) := by decide +kernel
theorem dX9_goOn_173 : decode cX9_goOn 173 = .ok (.iadd, 1) := by decide +kernel
theorem dX9_goOn_174 : decode cX9_goOn 174 = .ok (.aload_n 0, 1) := by decide +kernel
theorem dX9_goOn_175 : decode cX9_goOn 175 = .ok (.getfield 120, 3) := by decide +kernel
theorem dX9_goOn_178 : decode cX9_goOn 178 = .ok (.bipush 8, 2) := by decide +kernel
theorem dX9_goOn_180 : decode cX9_goOn 180 = .ok (.iload_n 2, 1) := by decide +kernel
theorem dX9_goOn_181 : decode cX9_goOn 181 = .ok (.imul, 1) := by decide +kernel
theorem dX9_goOn_182 : decode cX9_goOn 182 = .ok (.iload_n 3, 1) := by decide +kernel
theorem dX9_goOn_183 : decode cX9_goOn 183 = .ok (.iadd, 1) := by decide +kernel
theorem dX9_goOn_184 : decode cX9_goOn 184 = .ok (.iaload, 1) := by decide +kernel
theorem dX9_goOn_185 : decode cX9_goOn 185 = .ok (.iastore, 1) := by decide +kernel
theorem dX9_goOn_186 : decode cX9_goOn 186 = .ok (.iinc 3 1, 3) := by decide +kernel
theorem dX9_goOn_189 : decode cX9_goOn 189 = .ok (.goto (-35), 3) := by decide +kernel
theorem dX9_goOn_192 : decode cX9_goOn 192 = .ok (.iinc 2 1, 3) := by decide +kernel
theorem dX9_goOn_195 : decode cX9_goOn 195 = .ok (.goto (-53), 3) := by decide +kernel
theorem dX9_goOn_198 : decode cX9_goOn 198 = .ok (.aload_n 0, 1) := by decide +kernel
theorem dX9_goOn_199 : decode cX9_goOn 199 = .ok (.dup, 1) := by decide +kernel
theorem dX9_goOn_200 : decode cX9_goOn 200 = .ok (.getfield 339, 3) := by decide +kernel
theorem dX9_goOn_203 : decode cX9_goOn 203 = .ok (.iconst 1, 1) := by decide +kernel
theorem dX9_goOn_204 : decode cX9_goOn 204 = .ok (.iadd, 1) := by decide +kernel
theorem dX9_goOn_205 : decode cX9_goOn 205 = .ok (.putfield 339, 3) := by decide +kernel
theorem dX9_goOn_208 : decode cX9_goOn 208 = .ok (.return_, 1) := by decide +kernel
def bX9_goOn_0 (l : Launch) (E : Ev) (d : Nat) (Q : Option Value → Hp → Prop) : Kt := k_push (.int 0) (k_istore 2 (Go l E YX9_goOn (d + 1) 0 0 Q 0 0 2))
set_option maxRecDepth 100000 in
set_option maxHeartbeats 4000000 in
theorem gX9_goOn_0 {l : Launch} {E : Ev} {d : Nat} {Q : Option Value → Hp → Prop} {ls : Lv} {st : List Value} {h : Hp} (hB : bX9_goOn_0 l E d Q ls st h) : Go l E YX9_goOn (d + 1) 0 0 Q 0 0 0 ls st h :=
  (sd_iconst (v := 0) (by decide) dX9_goOn_0 (sd_istore_n (i := 2) rfl (by decide) dX9_goOn_1 (Sd.go)) : Sd l E YX9_goOn (d + 1) 0 0 Q 0 0 0 (bX9_goOn_0 l E d Q)) ls st h hB
def bX9_goOn_2 (l : Launch) (E : Ev) (d : Nat) (Q : Option Value → Hp → Prop) : Kt := k_iload 2 (k_aload 0 (k_getR 9 55 3 (k_push (.int 0) (k_iaload (k_icmp_ge (k_push (.int 0) (k_istore 2 (Go l E YX9_goOn (d + 1) 0 0 Q 0 0 142))) (k_push (.int 0) (k_istore 3 (Go l E YX9_goOn (d + 1) 0 0 Q 0 0 14))))))))
set_option maxRecDepth 100000 in
set_option maxHeartbeats 4000000 in
theorem gX9_goOn_2 {l : Launch} {E : Ev} {d : Nat} {Q : Option Value → Hp → Prop} {ls : Lv} {st : List Value} {h : Hp} (hB : bX9_goOn_2 l E d Q ls st h) : Go l E YX9_goOn (d + 1) 0 0 Q 0 0 2 ls st h :=
  (sd_iload_n (i := 2) rfl dX9_goOn_2 (sd_aload_n (i := 0) rfl dX9_goOn_3 (sd_getR clsX9 (f := 3) (by decide) (fun _ _ _ => rfl) mw_1181 dX9_goOn_4 (sd_iconst (v := 0) (by decide) dX9_goOn_7 (sd_iaload dX9_goOn_8 (sd_icmp_ge (tgt := 140) (by decide) dX9_goOn_9 (sd_iconst (v := 0) (by decide) dX9_goOn_140 (sd_istore_n (i := 2) rfl (by decide) dX9_goOn_141 (Sd.go))) (sd_iconst (v := 0) (by decide) dX9_goOn_12 (sd_istore_n (i := 3) rfl (by decide) dX9_goOn_13 (Sd.go)))))))) : Sd l E YX9_goOn (d + 1) 0 0 Q 0 0 2 (bX9_goOn_2 l E d Q)) ls st h hB
def bX9_goOn_14 (l : Launch) (E : Ev) (d : Nat) (Q : Option Value → Hp → Prop) : Kt := k_iload 3 (k_aload 0 (k_getR 9 55 3 (k_push (.int 1) (k_iaload (k_icmp_ge (k_iinc 2 1 (Go l E YX9_goOn (d + 1) 0 0 Q 0 0 2)) (k_push (.int 8) (k_iload 2 (k_imul (k_iload 3 (k_iadd (k_istore 4 (k_aload 0 (k_getR 9 55 33 (k_iload 4 (k_iaload (k_aload 0 (k_push (.int 1) (k_iload 2 (k_iload 3 (k_push (.int 0) (k_push (.int 9) (k_callV l E 9 55 YX9_tells d 0 0 5 (k_isub (k_istore 5 (k_aload 0 (k_getR 9 55 49 (k_push (.int 10) (k_iload 1 (k_imul (k_push (.int 2) (k_iadd (k_iload 3 (k_iadd (k_iaload (k_iload 2 (k_icmp_ne (k_push (.int 0) (Go l E YX9_goOn (d + 1) 0 0 Q 0 0 74)) (k_push (.int 1) (Go l E YX9_goOn (d + 1) 0 0 Q 0 0 74))))))))))))))))))))))))))))))))))))))
set_option maxRecDepth 100000 in
set_option maxHeartbeats 4000000 in
theorem gX9_goOn_14 {l : Launch} {E : Ev} {d : Nat} {Q : Option Value → Hp → Prop} {ls : Lv} {st : List Value} {h : Hp} (hB : bX9_goOn_14 l E d Q ls st h) : Go l E YX9_goOn (d + 1) 0 0 Q 0 0 14 ls st h :=
  (sd_iload_n (i := 3) rfl dX9_goOn_14 (sd_aload_n (i := 0) rfl dX9_goOn_15 (sd_getR clsX9 (f := 3) (by decide) (fun _ _ _ => rfl) mw_1181 dX9_goOn_16 (sd_iconst (v := 1) (by decide) dX9_goOn_19 (sd_iaload dX9_goOn_20 (sd_icmp_ge (tgt := 134) (by decide) dX9_goOn_21 (sd_iinc (i := 2) (v := 1) (by decide) (by decide) dX9_goOn_134 (sd_goto (tgt := 2) (by decide) dX9_goOn_137 (Sd.go))) (sd_bipush (v := 8) (by decide) dX9_goOn_24 (sd_iload_n (i := 2) rfl dX9_goOn_26 (sd_imul dX9_goOn_27 (sd_iload_n (i := 3) rfl dX9_goOn_28 (sd_iadd dX9_goOn_29 (sd_istore (i := 4) (by decide) dX9_goOn_30 (sd_aload_n (i := 0) rfl dX9_goOn_32 (sd_getR clsX9 (f := 33) (by decide) (fun _ _ _ => rfl) mw_1211 dX9_goOn_33 (sd_iload (n := 4) dX9_goOn_36 (sd_iaload dX9_goOn_38 (sd_aload_n (i := 0) rfl dX9_goOn_39 (sd_iconst (v := 1) (by decide) dX9_goOn_40 (sd_iload_n (i := 2) rfl dX9_goOn_41 (sd_iload_n (i := 3) rfl dX9_goOn_42 (sd_iconst (v := 0) (by decide) dX9_goOn_43 (sd_bipush (v := 9) (by decide) dX9_goOn_44 (sd_callV (Y' := YX9_tells) (mc' := 0) (ms' := 0) (n := 5) clsX9.1 mw_1567 mw_1569 mw_73 mw_108 mw_1570 rfl (okmX9_tells) (by decide) (Nat.le_refl _) (by decide) (by decide) dX9_goOn_46 (sd_isub dX9_goOn_49 (sd_istore (i := 5) (by decide) dX9_goOn_50 (sd_aload_n (i := 0) rfl dX9_goOn_52 (sd_getR clsX9 (f := 49) (by decide) (fun _ _ _ => rfl) mw_1227 dX9_goOn_53 (sd_bipush (v := 10) (by decide) dX9_goOn_56 (sd_iload_n (i := 1) rfl dX9_goOn_58 (sd_imul dX9_goOn_59 (sd_iconst (v := 2) (by decide) dX9_goOn_60 (sd_iadd dX9_goOn_61 (sd_iload_n (i := 3) rfl dX9_goOn_62 (sd_iadd dX9_goOn_63 (sd_iaload dX9_goOn_64 (sd_iload_n (i := 2) rfl dX9_goOn_65 (sd_icmp_ne (tgt := 73) (by decide) dX9_goOn_66 (sd_iconst (v := 0) (by decide) dX9_goOn_73 (Sd.go)) (sd_iconst (v := 1) (by decide) dX9_goOn_69 (sd_goto (tgt := 74) (by decide) dX9_goOn_70 (Sd.go))))))))))))))))))))))))))))))))))))))) : Sd l E YX9_goOn (d + 1) 0 0 Q 0 0 14 (bX9_goOn_14 l E d Q)) ls st h hB
def bX9_goOn_74 (l : Launch) (E : Ev) (d : Nat) (Q : Option Value → Hp → Prop) : Kt := k_istore 6 (k_aload 0 (k_getR 9 55 51 (k_iload 4 (k_iload 6 (k_if_eq (k_iload 5 (k_if_ge (k_iload 5 (k_iastore (k_iinc 3 1 (Go l E YX9_goOn (d + 1) 0 0 Q 0 0 14)))) (k_push (.int 0) (k_iastore (k_iinc 3 1 (Go l E YX9_goOn (d + 1) 0 0 Q 0 0 14)))))) (k_aload 0 (k_getR 9 55 33 (k_iload 4 (k_iaload (k_push (.int 9) (k_icmp_ge (k_push (.int 9) (k_iastore (k_iinc 3 1 (Go l E YX9_goOn (d + 1) 0 0 Q 0 0 14)))) (k_aload 0 (k_getR 9 55 33 (k_iload 4 (k_iaload (k_push (.int 1) (k_iadd (k_iastore (k_iinc 3 1 (Go l E YX9_goOn (d + 1) 0 0 Q 0 0 14))))))))))))))))))))
set_option maxRecDepth 100000 in
set_option maxHeartbeats 4000000 in
theorem gX9_goOn_74 {l : Launch} {E : Ev} {d : Nat} {Q : Option Value → Hp → Prop} {ls : Lv} {st : List Value} {h : Hp} (hB : bX9_goOn_74 l E d Q ls st h) : Go l E YX9_goOn (d + 1) 0 0 Q 0 0 74 ls st h :=
  (sd_istore (i := 6) (by decide) dX9_goOn_74 (sd_aload_n (i := 0) rfl dX9_goOn_76 (sd_getR clsX9 (f := 51) (by decide) (fun _ _ _ => rfl) mw_1229 dX9_goOn_77 (sd_iload (n := 4) dX9_goOn_80 (sd_iload (n := 6) dX9_goOn_82 (sd_if_eq (tgt := 116) (by decide) dX9_goOn_84 (sd_iload (n := 5) dX9_goOn_116 (sd_if_ge (tgt := 125) (by decide) dX9_goOn_118 (sd_iload (n := 5) dX9_goOn_125 (sd_iastore dX9_goOn_127 (sd_iinc (i := 3) (v := 1) (by decide) (by decide) dX9_goOn_128 (sd_goto (tgt := 14) (by decide) dX9_goOn_131 (Sd.go))))) (sd_iconst (v := 0) (by decide) dX9_goOn_121 (sd_goto (tgt := 127) (by decide) dX9_goOn_122 (sd_iastore dX9_goOn_127 (sd_iinc (i := 3) (v := 1) (by decide) (by decide) dX9_goOn_128 (sd_goto (tgt := 14) (by decide) dX9_goOn_131 (Sd.go)))))))) (sd_aload_n (i := 0) rfl dX9_goOn_87 (sd_getR clsX9 (f := 33) (by decide) (fun _ _ _ => rfl) mw_1211 dX9_goOn_88 (sd_iload (n := 4) dX9_goOn_91 (sd_iaload dX9_goOn_93 (sd_bipush (v := 9) (by decide) dX9_goOn_94 (sd_icmp_ge (tgt := 111) (by decide) dX9_goOn_96 (sd_bipush (v := 9) (by decide) dX9_goOn_111 (sd_goto (tgt := 127) (by decide) dX9_goOn_113 (sd_iastore dX9_goOn_127 (sd_iinc (i := 3) (v := 1) (by decide) (by decide) dX9_goOn_128 (sd_goto (tgt := 14) (by decide) dX9_goOn_131 (Sd.go)))))) (sd_aload_n (i := 0) rfl dX9_goOn_99 (sd_getR clsX9 (f := 33) (by decide) (fun _ _ _ => rfl) mw_1211 dX9_goOn_100 (sd_iload (n := 4) dX9_goOn_103 (sd_iaload dX9_goOn_105 (sd_iconst (v := 1) (by decide) dX9_goOn_106 (sd_iadd dX9_goOn_107 (sd_goto (tgt := 127) (by decide) dX9_goOn_108 (sd_iastore dX9_goOn_127 (sd_iinc (i := 3) (v := 1) (by decide) (by decide) dX9_goOn_128 (sd_goto (tgt := 14) (by decide) dX9_goOn_131 (Sd.go)))))))))))))))))))))) : Sd l E YX9_goOn (d + 1) 0 0 Q 0 0 74 (bX9_goOn_74 l E d Q)) ls st h hB
def bX9_goOn_142 (l : Launch) (E : Ev) (d : Nat) (Q : Option Value → Hp → Prop) : Kt := k_iload 2 (k_aload 0 (k_getR 9 55 3 (k_push (.int 0) (k_iaload (k_icmp_ge (k_aload 0 (k_dup (k_getI 9 55 34 (k_push (.int 1) (k_iadd (k_putI 9 55 34 (k_vret Q))))))) (k_push (.int 0) (k_istore 3 (Go l E YX9_goOn (d + 1) 0 0 Q 0 0 154))))))))
set_option maxRecDepth 100000 in
set_option maxHeartbeats 4000000 in
theorem gX9_goOn_142 {l : Launch} {E : Ev} {d : Nat} {Q : Option Value → Hp → Prop} {ls : Lv} {st : List Value} {h : Hp} (hB : bX9_goOn_142 l E d Q ls st h) : Go l E YX9_goOn (d + 1) 0 0 Q 0 0 142 ls st h :=
  (sd_iload_n (i := 2) rfl dX9_goOn_142 (sd_aload_n (i := 0) rfl dX9_goOn_143 (sd_getR clsX9 (f := 3) (by decide) (fun _ _ _ => rfl) mw_1181 dX9_goOn_144 (sd_iconst (v := 0) (by decide) dX9_goOn_147 (sd_iaload dX9_goOn_148 (sd_icmp_ge (tgt := 198) (by decide) dX9_goOn_149 (sd_aload_n (i := 0) rfl dX9_goOn_198 (sd_dup dX9_goOn_199 (sd_getI clsX9 (f := 34) (by decide) (fun _ _ _ => rfl) mw_1212 dX9_goOn_200 (sd_iconst (v := 1) (by decide) dX9_goOn_203 (sd_iadd dX9_goOn_204 (sd_putI clsX9 (f := 34) (by decide) (fun _ _ _ => rfl) rfl (Or.inl rfl) mw_1212 dX9_goOn_205 (sd_vret rfl (by decide) (by decide) dX9_goOn_208))))))) (sd_iconst (v := 0) (by decide) dX9_goOn_152 (sd_istore_n (i := 3) rfl (by decide) dX9_goOn_153 (Sd.go)))))))) : Sd l E YX9_goOn (d + 1) 0 0 Q 0 0 142 (bX9_goOn_142 l E d Q)) ls st h hB
def bX9_goOn_154 (l : Launch) (E : Ev) (d : Nat) (Q : Option Value → Hp → Prop) : Kt := k_iload 3 (k_aload 0 (k_getR 9 55 3 (k_push (.int 1) (k_iaload (k_icmp_ge (k_iinc 2 1 (Go l E YX9_goOn (d + 1) 0 0 Q 0 0 142)) (k_aload 0 (k_getR 9 55 33 (k_push (.int 8) (k_iload 2 (k_imul (k_iload 3 (k_iadd (k_aload 0 (k_getR 9 55 51 (k_push (.int 8) (k_iload 2 (k_imul (k_iload 3 (k_iadd (k_iaload (k_iastore (k_iinc 3 1 (Go l E YX9_goOn (d + 1) 0 0 Q 0 0 154)))))))))))))))))))))))
set_option maxRecDepth 100000 in
set_option maxHeartbeats 4000000 in
theorem gX9_goOn_154 {l : Launch} {E : Ev} {d : Nat} {Q : Option Value → Hp → Prop} {ls : Lv} {st : List Value} {h : Hp} (hB : bX9_goOn_154 l E d Q ls st h) : Go l E YX9_goOn (d + 1) 0 0 Q 0 0 154 ls st h :=
  (sd_iload_n (i := 3) rfl dX9_goOn_154 (sd_aload_n (i := 0) rfl dX9_goOn_155 (sd_getR clsX9 (f := 3) (by decide) (fun _ _ _ => rfl) mw_1181 dX9_goOn_156 (sd_iconst (v := 1) (by decide) dX9_goOn_159 (sd_iaload dX9_goOn_160 (sd_icmp_ge (tgt := 192) (by decide) dX9_goOn_161 (sd_iinc (i := 2) (v := 1) (by decide) (by decide) dX9_goOn_192 (sd_goto (tgt := 142) (by decide) dX9_goOn_195 (Sd.go))) (sd_aload_n (i := 0) rfl dX9_goOn_164 (sd_getR clsX9 (f := 33) (by decide) (fun _ _ _ => rfl) mw_1211 dX9_goOn_165 (sd_bipush (v := 8) (by decide) dX9_goOn_168 (sd_iload_n (i := 2) rfl dX9_goOn_170 (sd_imul dX9_goOn_171 (sd_iload_n (i := 3) rfl dX9_goOn_172 (sd_iadd dX9_goOn_173 (sd_aload_n (i := 0) rfl dX9_goOn_174 (sd_getR clsX9 (f := 51) (by decide) (fun _ _ _ => rfl) mw_1229 dX9_goOn_175 (sd_bipush (v := 8) (by decide) dX9_goOn_178 (sd_iload_n (i := 2) rfl dX9_goOn_180 (sd_imul dX9_goOn_181 (sd_iload_n (i := 3) rfl dX9_goOn_182 (sd_iadd dX9_goOn_183 (sd_iaload dX9_goOn_184 (sd_iastore dX9_goOn_185 (sd_iinc (i := 3) (v := 1) (by decide) (by decide) dX9_goOn_186 (sd_goto (tgt := 154) (by decide) dX9_goOn_189 (Sd.go)))))))))))))))))))))))) : Sd l E YX9_goOn (d + 1) 0 0 Q 0 0 154 (bX9_goOn_154 l E d Q)) ls st h hB
theorem eX9_goOn {l : Launch} {E : Ev} {d : Nat} {Q : Option Value → Hp → Prop} {h : Hp} {a0 : Nat} {x1 : Int32} (hk : Go l E YX9_goOn d 0 0 Q 0 0 0 [some (.ref a0), some (.int x1), none, none, none, none, none] [] h) : GoM l E YX9_goOn d 0 0 [.ref a0, .int x1] h Q := GoM.of (by decide +kernel) rfl (by simp [entA, YX9_goOn]) hk
theorem dX9_week_0 : decode cX9_week 0 = .ok (.aload_n 0, 1) := by decide +kernel
theorem dX9_week_1 : decode cX9_week 1 = .ok (.iconst 0, 1) := by decide +kernel
theorem dX9_week_2 : decode cX9_week 2 = .ok (.putfield 123, 3) := by decide +kernel
theorem dX9_week_5 : decode cX9_week 5 = .ok (.iload_n 1, 1) := by decide +kernel
theorem dX9_week_6 : decode cX9_week 6 = .ok (.i2l, 1) := by decide +kernel
theorem dX9_week_7 : decode cX9_week 7 = .ok (.lconst 0, 1) := by decide +kernel
theorem dX9_week_8 : decode cX9_week 8 = .ok (.aload_n 0, 1) := by decide +kernel
theorem dX9_week_9 : decode cX9_week 9 = .ok (.getfield 466, 3) := by decide +kernel
theorem dX9_week_12 : decode cX9_week 12 = .ok (.i2l, 1) := by decide +kernel
theorem dX9_week_13 : decode cX9_week 13 = .ok (.lconst 1, 1) := by decide +kernel
theorem dX9_week_14 : decode cX9_week 14 = .ok (.lsub, 1) := by decide +kernel
theorem dX9_week_15 : decode cX9_week 15 = .ok (.invokestatic 133, 3) := by decide +kernel
theorem dX9_week_18 : decode cX9_week 18 = .ok (.ifCond .eq 29, 3) := by decide +kernel
theorem dX9_week_21 : decode cX9_week 21 = .ok (.iload_n 2, 1) := by decide +kernel
theorem dX9_week_22 : decode cX9_week 22 = .ok (.i2l, 1) := by decide +kernel
theorem dX9_week_23 : decode cX9_week 23 = .ok (.lconst 0, 1) := by decide +kernel
theorem dX9_week_24 : decode cX9_week 24 = .ok (.ldc2_w 144, 3) := by decide +kernel
theorem dX9_week_27 : decode cX9_week 27 = .ok (.invokestatic 133, 3) := by decide +kernel
theorem dX9_week_30 : decode cX9_week 30 = .ok (.ifCond .eq 17, 3) := by decide +kernel
theorem dX9_week_33 : decode cX9_week 33 = .ok (.aload_n 0, 1) := by decide +kernel
theorem dX9_week_34 : decode cX9_week 34 = .ok (.getfield 114, 3) := by decide +kernel
theorem dX9_week_37 : decode cX9_week 37 = .ok (.bipush 10, 2) := by decide +kernel
theorem dX9_week_39 : decode cX9_week 39 = .ok (.iload_n 1, 1) := by decide +kernel
theorem dX9_week_40 : decode cX9_week 40 = .ok (.imul, 1) := by decide +kernel
theorem dX9_week_41 : decode cX9_week 41 = .ok (.iload_n 2, 1) := by decide +kernel
theorem dX9_week_42 : decode cX9_week 42 = .ok (.iadd, 1) := by decide +kernel
theorem dX9_week_43 : decode cX9_week 43 = .ok (.iaload, 1) := by decide +kernel
theorem dX9_week_44 : decode cX9_week 44 = .ok (.goto 4, 3) := by decide +kernel
theorem dX9_week_47 : decode cX9_week 47 = .ok (.iconst (-1), 1) := by decide +kernel
theorem dX9_week_48 : decode cX9_week 48 = .ok (.ireturn, 1) := by decide +kernel
def bX9_week_0 (l : Launch) (E : Ev) (d : Nat) (Q : Option Value → Hp → Prop) : Kt := k_aload 0 (k_push (.int 0) (k_putI 9 55 0 (k_iload 1 (k_i2l (k_push (.long 0) (k_aload 0 (k_getI 9 55 52 (k_i2l (k_push (.long 1) (k_lsub (k_callS l E YX9_in d 0 0 3 (k_if_eq (k_push (.int (-1)) (k_iret .int Q)) (k_iload 2 (k_i2l (k_push (.long 0) (k_push (.long 9) (k_callS l E YX9_in d 0 0 3 (k_if_eq (k_push (.int (-1)) (k_iret .int Q)) (k_aload 0 (k_getR 9 55 49 (k_push (.int 10) (k_iload 1 (k_imul (k_iload 2 (k_iadd (k_iaload (k_iret .int Q)))))))))))))))))))))))))))
set_option maxRecDepth 100000 in
set_option maxHeartbeats 4000000 in
theorem gX9_week_0 {l : Launch} {E : Ev} {d : Nat} {Q : Option Value → Hp → Prop} {ls : Lv} {st : List Value} {h : Hp} (hB : bX9_week_0 l E d Q ls st h) : Go l E YX9_week (d + 1) 0 0 Q 0 0 0 ls st h :=
  (sd_aload_n (i := 0) rfl dX9_week_0 (sd_iconst (v := 0) (by decide) dX9_week_1 (sd_putI clsX9 (f := 0) (by decide) (fun _ _ _ => rfl) rfl (Or.inl rfl) mw_1178 dX9_week_2 (sd_iload_n (i := 1) rfl dX9_week_5 (sd_i2l dX9_week_6 (sd_lconst (v := 0) (by decide) dX9_week_7 (sd_aload_n (i := 0) rfl dX9_week_8 (sd_getI clsX9 (f := 52) (by decide) (fun _ _ _ => rfl) mw_1230 dX9_week_9 (sd_i2l dX9_week_12 (sd_lconst (v := 1) (by decide) dX9_week_13 (sd_lsub dX9_week_14 (sd_callS (Y' := YX9_in) (mc' := 0) (ms' := 0) (n := 3) mw_1348 mw_1349 mw_108 mw_1350 (okmX9_in) (by decide) (Nat.le_refl _) (by decide) (by decide) dX9_week_15 (sd_if_eq (tgt := 47) (by decide) dX9_week_18 (sd_iconst (v := (-1)) (by decide) dX9_week_47 (sd_iret (ty := .int) rfl (by decide) (by decide) dX9_week_48)) (sd_iload_n (i := 2) rfl dX9_week_21 (sd_i2l dX9_week_22 (sd_lconst (v := 0) (by decide) dX9_week_23 (sd_ldc2 (v := 9) mw_1368 dX9_week_24 (sd_callS (Y' := YX9_in) (mc' := 0) (ms' := 0) (n := 3) mw_1348 mw_1349 mw_108 mw_1350 (okmX9_in) (by decide) (Nat.le_refl _) (by decide) (by decide) dX9_week_27 (sd_if_eq (tgt := 47) (by decide) dX9_week_30 (sd_iconst (v := (-1)) (by decide) dX9_week_47 (sd_iret (ty := .int) rfl (by decide) (by decide) dX9_week_48)) (sd_aload_n (i := 0) rfl dX9_week_33 (sd_getR clsX9 (f := 49) (by decide) (fun _ _ _ => rfl) mw_1227 dX9_week_34 (sd_bipush (v := 10) (by decide) dX9_week_37 (sd_iload_n (i := 1) rfl dX9_week_39 (sd_imul dX9_week_40 (sd_iload_n (i := 2) rfl dX9_week_41 (sd_iadd dX9_week_42 (sd_iaload dX9_week_43 (sd_goto (tgt := 48) (by decide) dX9_week_44 (sd_iret (ty := .int) rfl (by decide) (by decide) dX9_week_48)))))))))))))))))))))))))))) : Sd l E YX9_week (d + 1) 0 0 Q 0 0 0 (bX9_week_0 l E d Q)) ls st h hB
theorem eX9_week {l : Launch} {E : Ev} {d : Nat} {Q : Option Value → Hp → Prop} {h : Hp} {a0 : Nat} {x1 : Int32} {x2 : Int32} (hk : Go l E YX9_week d 0 0 Q 0 0 0 [some (.ref a0), some (.int x1), some (.int x2)] [] h) : GoM l E YX9_week d 0 0 [.ref a0, .int x1, .int x2] h Q := GoM.of (by decide +kernel) rfl (by simp [entA, YX9_week]) hk
theorem dX9_learnt_0 : decode cX9_learnt 0 = .ok (.aload_n 0, 1) := by decide +kernel
theorem dX9_learnt_1 : decode cX9_learnt 1 = .ok (.iconst 0, 1) := by decide +kernel
theorem dX9_learnt_2 : decode cX9_learnt 2 = .ok (.putfield 123, 3) := by decide +kernel
theorem dX9_learnt_5 : decode cX9_learnt 5 = .ok (.aload_n 0, 1) := by decide +kernel
theorem dX9_learnt_6 : decode cX9_learnt 6 = .ok (.getfield 466, 3) := by decide +kernel
theorem dX9_learnt_9 : decode cX9_learnt 9 = .ok (.ifCond .le 49, 3) := by decide +kernel
theorem dX9_learnt_12 : decode cX9_learnt 12 = .ok (.iload_n 1, 1) := by decide +kernel
theorem dX9_learnt_13 : decode cX9_learnt 13 = .ok (.i2l, 1) := by decide +kernel
theorem dX9_learnt_14 : decode cX9_learnt 14 = .ok (.lconst 0, 1) := by decide +kernel
theorem dX9_learnt_15 : decode cX9_learnt 15 = .ok (.aload_n 0, 1) := by decide +kernel
theorem dX9_learnt_16 : decode cX9_learnt 16 = .ok (.getfield 469, 3) := by decide +kernel
theorem dX9_learnt_19 : decode cX9_learnt 19 = .ok (.i2l, 1) := by decide +kernel
theorem dX9_learnt_20 : decode cX9_learnt 20 = .ok (.lconst 1, 1) := by decide +kernel
theorem dX9_learnt_21 : decode cX9_learnt 21 = .ok (.lsub, 1) := by decide +kernel
theorem dX9_learnt_22 : decode cX9_learnt 22 = .ok (.invokestatic 133, 3) := by decide +kernel
theorem dX9_learnt_25 : decode cX9_learnt 25 = .ok (.ifCond .eq 33, 3) := by decide +kernel
theorem dX9_learnt_28 : decode cX9_learnt 28 = .ok (.iload_n 2, 1) := by decide +kernel
theorem dX9_learnt_29 : decode cX9_learnt 29 = .ok (.i2l, 1) := by decide +kernel
theorem dX9_learnt_30 : decode cX9_learnt 30 = .ok (.lconst 0, 1) := by decide +kernel
theorem dX9_learnt_31 : decode cX9_learnt 31 = .ok (.aload_n 0, 1) := by decide +kernel
theorem dX9_learnt_32 : decode cX9_learnt 32 = .ok (.getfield 472, 3) := by decide +kernel
theorem dX9_learnt_35 : decode cX9_learnt 35 = .ok (.i2l, 1) := by decide +kernel
theorem dX9_learnt_36 : decode cX9_learnt 36 = .ok (.lconst 1, 1) := by decide +kernel
theorem dX9_learnt_37 : decode cX9_learnt 37 = .ok (.lsub, 1) := by decide +kernel
theorem dX9_learnt_38 : decode cX9_learnt 38 = .ok (.invokestatic 133, 3) := by decide +kernel
theorem dX9_learnt_41 : decode cX9_learnt 41 = .ok (.ifCond .eq 17, 3) := by decide +kernel
theorem dX9_learnt_44 : decode cX9_learnt 44 = .ok (.aload_n 0, 1) := by decide +kernel
theorem dX9_learnt_45 : decode cX9_learnt 45 = .ok (.getfield 117, 3) := by decide +kernel
theorem dX9_learnt_48 : decode cX9_learnt 48 = .ok (.bipush 8, 2) := by decide +kernel
theorem dX9_learnt_50 : decode cX9_learnt 50 = .ok (.iload_n 1, 1) := by decide +kernel
theorem dX9_learnt_51 : decode cX9_learnt 51 = .ok (.imul, 1) := by decide +kernel
theorem dX9_learnt_52 : decode cX9_learnt 52 = .ok (.iload_n 2, 1) := by decide +kernel
theorem dX9_learnt_53 : decode cX9_learnt 53 = .ok (.iadd, 1) := by decide +kernel
theorem dX9_learnt_54 : decode cX9_learnt 54 = .ok (.iaload, 1) := by decide +kernel
theorem dX9_learnt_55 : decode cX9_learnt 55 = .ok (.goto 4, 3) := by decide +kernel
theorem dX9_learnt_58 : decode cX9_learnt 58 = .ok (.iconst (-1), 1) := by decide +kernel
theorem dX9_learnt_59 : decode cX9_learnt 59 = .ok (.ireturn, 1) := by decide +kernel
def bX9_learnt_0 (l : Launch) (E : Ev) (d : Nat) (Q : Option Value → Hp → Prop) : Kt := k_aload 0 (k_push (.int 0) (k_putI 9 55 0 (k_aload 0 (k_getI 9 55 52 (k_if_le (k_push (.int (-1)) (k_iret .int Q)) (k_iload 1 (k_i2l (k_push (.long 0) (k_aload 0 (k_getI 9 55 53 (k_i2l (k_push (.long 1) (k_lsub (k_callS l E YX9_in d 0 0 3 (k_if_eq (k_push (.int (-1)) (k_iret .int Q)) (k_iload 2 (k_i2l (k_push (.long 0) (k_aload 0 (k_getI 9 55 54 (k_i2l (k_push (.long 1) (k_lsub (k_callS l E YX9_in d 0 0 3 (k_if_eq (k_push (.int (-1)) (k_iret .int Q)) (k_aload 0 (k_getR 9 55 50 (k_push (.int 8) (k_iload 1 (k_imul (k_iload 2 (k_iadd (k_iaload (k_iret .int Q))))))))))))))))))))))))))))))))))
set_option maxRecDepth 100000 in
set_option maxHeartbeats 4000000 in
theorem gX9_learnt_0 {l : Launch} {E : Ev} {d : Nat} {Q : Option Value → Hp → Prop} {ls : Lv} {st : List Value} {h : Hp} (hB : bX9_learnt_0 l E d Q ls st h) : Go l E YX9_learnt (d + 1) 0 0 Q 0 0 0 ls st h :=
  (sd_aload_n (i := 0) rfl dX9_learnt_0 (sd_iconst (v := 0) (by decide) dX9_learnt_1 (sd_putI clsX9 (f := 0) (by decide) (fun _ _ _ => rfl) rfl (Or.inl rfl) mw_1178 dX9_learnt_2 (sd_aload_n (i := 0) rfl dX9_learnt_5 (sd_getI clsX9 (f := 52) (by decide) (fun _ _ _ => rfl) mw_1230 dX9_learnt_6 (sd_if_le (tgt := 58) (by decide) dX9_learnt_9 (sd_iconst (v := (-1)) (by decide) dX9_learnt_58 (sd_iret (ty := .int) rfl (by decide) (by decide) dX9_learnt_59)) (sd_iload_n (i := 1) rfl dX9_learnt_12 (sd_i2l dX9_learnt_13 (sd_lconst (v := 0) (by decide) dX9_learnt_14 (sd_aload_n (i := 0) rfl dX9_learnt_15 (sd_getI clsX9 (f := 53) (by decide) (fun _ _ _ => rfl) mw_1231 dX9_learnt_16 (sd_i2l dX9_learnt_19 (sd_lconst (v := 1) (by decide) dX9_learnt_20 (sd_lsub dX9_learnt_21 (sd_callS (Y' := YX9_in) (mc' := 0) (ms' := 0) (n := 3) mw_1348 mw_1349 mw_108 mw_1350 (okmX9_in) (by decide) (Nat.le_refl _) (by decide) (by decide) dX9_learnt_22 (sd_if_eq (tgt := 58) (by decide) dX9_learnt_25 (sd_iconst (v := (-1)) (by decide) dX9_learnt_58 (sd_iret (ty := .int) rfl (by decide) (by decide) dX9_learnt_59)) (sd_iload_n (i := 2) rfl dX9_learnt_28 (sd_i2l dX9_learnt_29 (sd_lconst (v := 0) (by decide) dX9_learnt_30 (sd_aload_n (i := 0) rfl dX9_learnt_31 (sd_getI clsX9 (f := 54) (by decide) (fun _ _ _ => rfl) mw_1232 dX9_learnt_32 (sd_i2l dX9_learnt_35 (sd_lconst (v := 1) (by decide) dX9_learnt_36 (sd_lsub dX9_learnt_37 (sd_callS (Y' := YX9_in) (mc' := 0) (ms' := 0) (n := 3) mw_1348 mw_1349 mw_108 mw_1350 (okmX9_in) (by decide) (Nat.le_refl _) (by decide) (by decide) dX9_learnt_38 (sd_if_eq (tgt := 58) (by decide) dX9_learnt_41 (sd_iconst (v := (-1)) (by decide) dX9_learnt_58 (sd_iret (ty := .int) rfl (by decide) (by decide) dX9_learnt_59)) (sd_aload_n (i := 0) rfl dX9_learnt_44 (sd_getR clsX9 (f := 50) (by decide) (fun _ _ _ => rfl) mw_1228 dX9_learnt_45 (sd_bipush (v := 8) (by decide) dX9_learnt_48 (sd_iload_n (i := 1) rfl dX9_learnt_50 (sd_imul dX9_learnt_51 (sd_iload_n (i := 2) rfl dX9_learnt_52 (sd_iadd dX9_learnt_53 (sd_iaload dX9_learnt_54 (sd_goto (tgt := 59) (by decide) dX9_learnt_55 (sd_iret (ty := .int) rfl (by decide) (by decide) dX9_learnt_59))))))))))))))))))))))))))))))))))) : Sd l E YX9_learnt (d + 1) 0 0 Q 0 0 0 (bX9_learnt_0 l E d Q)) ls st h hB
theorem eX9_learnt {l : Launch} {E : Ev} {d : Nat} {Q : Option Value → Hp → Prop} {h : Hp} {a0 : Nat} {x1 : Int32} {x2 : Int32} (hk : Go l E YX9_learnt d 0 0 Q 0 0 0 [some (.ref a0), some (.int x1), some (.int x2)] [] h) : GoM l E YX9_learnt d 0 0 [.ref a0, .int x1, .int x2] h Q := GoM.of (by decide +kernel) rfl (by simp [entA, YX9_learnt]) hk
theorem dX9_count_0 : decode cX9_count 0 = .ok (.aload_n 0, 1) := by decide +kernel
theorem dX9_count_1 : decode cX9_count 1 = .ok (.iconst 0, 1) := by decide +kernel
theorem dX9_count_2 : decode cX9_count 2 = .ok (.putfield 123, 3) := by decide +kernel
theorem dX9_count_5 : decode cX9_count 5 = .ok (.iload_n 1, 1) := by decide +kernel
theorem dX9_count_6 : decode cX9_count 6 = .ok (.tableswitch 193 0 15 #[78, 85, 92, 99, 107, 115, 122, 127, 134, 141, 148, 155, 163, 170, 177, 185], 78) := by decide +kernel
theorem dX9_count_84 : decode cX9_count 84 = .ok (.aload_n 0, 1) := by decide +kernel
theorem dX9_count_85 : decode cX9_count 85 = .ok (.getfield 13, 3) := by decide +kernel
theorem dX9_count_88 : decode cX9_count 88 = .ok (.iconst 0, 1) := by decide +kernel
theorem dX9_count_89 : decode cX9_count 89 = .ok (.iaload, 1) := by decide +kernel
theorem dX9_count_90 : decode cX9_count 90 = .ok (.ireturn, 1) := by decide +kernel
theorem dX9_count_91 : decode cX9_count 91 = .ok (.aload_n 0, 1) := by decide +kernel
theorem dX9_count_92 : decode cX9_count 92 = .ok (.getfield 13, 3) := by decide +kernel
theorem dX9_count_95 : decode cX9_count 95 = .ok (.iconst 1, 1) := by decide +kernel
theorem dX9_count_96 : decode cX9_count 96 = .ok (.iaload, 1) := by decide +kernel
theorem dX9_count_97 : decode cX9_count 97 = .ok (.ireturn, 1) := by decide +kernel
theorem dX9_count_98 : decode cX9_count 98 = .ok (.aload_n 0, 1) := by decide +kernel
theorem dX9_count_99 : decode cX9_count 99 = .ok (.getfield 13, 3) := by decide +kernel
theorem dX9_count_102 : decode cX9_count 102 = .ok (.iconst 2, 1) := by decide +kernel
theorem dX9_count_103 : decode cX9_count 103 = .ok (.iaload, 1) := by decide +kernel
theorem dX9_count_104 : decode cX9_count 104 = .ok (.ireturn, 1) := by decide +kernel
theorem dX9_count_105 : decode cX9_count 105 = .ok (.aload_n 0, 1) := by decide +kernel
theorem dX9_count_106 : decode cX9_count 106 = .ok (.getfield 13, 3) := by decide +kernel
theorem dX9_count_109 : decode cX9_count 109 = .ok (.bipush 8, 2) := by decide +kernel
theorem dX9_count_111 : decode cX9_count 111 = .ok (.iaload, 1) := by decide +kernel
theorem dX9_count_112 : decode cX9_count 112 = .ok (.ireturn, 1) := by decide +kernel
theorem dX9_count_113 : decode cX9_count 113 = .ok (.aload_n 0, 1) := by decide +kernel
theorem dX9_count_114 : decode cX9_count 114 = .ok (.getfield 13, 3) := by decide +kernel
theorem dX9_count_117 : decode cX9_count 117 = .ok (.bipush 9, 2) := by decide +kernel
theorem dX9_count_119 : decode cX9_count 119 = .ok (.iaload, 1) := by decide +kernel
theorem dX9_count_120 : decode cX9_count 120 = .ok (.ireturn, 1) := by decide +kernel
theorem dX9_count_121 : decode cX9_count 121 = .ok (.aload_n 0, 1) := by decide +kernel
theorem dX9_count_122 : decode cX9_count 122 = .ok (.getfield 13, 3) := by decide +kernel
theorem dX9_count_125 : decode cX9_count 125 = .ok (.iconst 4, 1) := by decide +kernel
theorem dX9_count_126 : decode cX9_count 126 = .ok (.iaload, 1) := by decide +kernel
theorem dX9_count_127 : decode cX9_count 127 = .ok (.ireturn, 1) := by decide +kernel
theorem dX9_count_128 : decode cX9_count 128 = .ok (.aload_n 0, 1) := by decide +kernel
theorem dX9_count_129 : decode cX9_count 129 = .ok (.getfield 171, 3) := by decide +kernel
theorem dX9_count_132 : decode cX9_count 132 = .ok (.ireturn, 1) := by decide +kernel
theorem dX9_count_133 : decode cX9_count 133 = .ok (.aload_n 0, 1) := by decide +kernel
theorem dX9_count_134 : decode cX9_count 134 = .ok (.getfield 7, 3) := by decide +kernel
theorem dX9_count_137 : decode cX9_count 137 = .ok (.iconst 1, 1) := by decide +kernel
theorem dX9_count_138 : decode cX9_count 138 = .ok (.iaload, 1) := by decide +kernel
theorem dX9_count_139 : decode cX9_count 139 = .ok (.ireturn, 1) := by decide +kernel
theorem dX9_count_140 : decode cX9_count 140 = .ok (.aload_n 0, 1) := by decide +kernel
theorem dX9_count_141 : decode cX9_count 141 = .ok (.getfield 7, 3) := by decide +kernel
theorem dX9_count_144 : decode cX9_count 144 = .ok (.iconst 2, 1) := by decide +kernel
theorem dX9_count_145 : decode cX9_count 145 = .ok (.iaload, 1) := by decide +kernel
theorem dX9_count_146 : decode cX9_count 146 = .ok (.ireturn, 1) := by decide +kernel
theorem dX9_count_147 : decode cX9_count 147 = .ok (.aload_n 0, 1) := by decide +kernel
theorem dX9_count_148 : decode cX9_count 148 = .ok (.getfield 7, 3) := by decide +kernel
theorem dX9_count_151 : decode cX9_count 151 = .ok (.iconst 3, 1) := by decide +kernel
theorem dX9_count_152 : decode cX9_count 152 = .ok (.iaload, 1) := by decide +kernel
theorem dX9_count_153 : decode cX9_count 153 = .ok (.ireturn, 1) := by decide +kernel
theorem dX9_count_154 : decode cX9_count 154 = .ok (.aload_n 0, 1) := by decide +kernel
theorem dX9_count_155 : decode cX9_count 155 = .ok (.getfield 7, 3) := by decide +kernel
theorem dX9_count_158 : decode cX9_count 158 = .ok (.iconst 5, 1) := by decide +kernel
theorem dX9_count_159 : decode cX9_count 159 = .ok (.iaload, 1) := by decide +kernel
theorem dX9_count_160 : decode cX9_count 160 = .ok (.ireturn, 1) := by decide +kernel
theorem dX9_count_161 : decode cX9_count 161 = .ok (.aload_n 0, 1) := by decide +kernel
theorem dX9_count_162 : decode cX9_count 162 = .ok (.getfield 7, 3) := by decide +kernel
theorem dX9_count_165 : decode cX9_count 165 = .ok (.bipush 6, 2) := by decide +kernel
theorem dX9_count_167 : decode cX9_count 167 = .ok (.iaload, 1) := by decide +kernel
theorem dX9_count_168 : decode cX9_count 168 = .ok (.ireturn, 1) := by decide +kernel
theorem dX9_count_169 : decode cX9_count 169 = .ok (.aload_n 0, 1) := by decide +kernel
theorem dX9_count_170 : decode cX9_count 170 = .ok (.getfield 13, 3) := by decide +kernel
theorem dX9_count_173 : decode cX9_count 173 = .ok (.iconst 3, 1) := by decide +kernel
theorem dX9_count_174 : decode cX9_count 174 = .ok (.iaload, 1) := by decide +kernel
theorem dX9_count_175 : decode cX9_count 175 = .ok (.ireturn, 1) := by decide +kernel
theorem dX9_count_176 : decode cX9_count 176 = .ok (.aload_n 0, 1) := by decide +kernel
theorem dX9_count_177 : decode cX9_count 177 = .ok (.getfield 13, 3) := by decide +kernel
theorem dX9_count_180 : decode cX9_count 180 = .ok (.iconst 5, 1) := by decide +kernel
theorem dX9_count_181 : decode cX9_count 181 = .ok (.iaload, 1) := by decide +kernel
theorem dX9_count_182 : decode cX9_count 182 = .ok (.ireturn, 1) := by decide +kernel
theorem dX9_count_183 : decode cX9_count 183 = .ok (.aload_n 0, 1) := by decide +kernel
theorem dX9_count_184 : decode cX9_count 184 = .ok (.getfield 13, 3) := by decide +kernel
theorem dX9_count_187 : decode cX9_count 187 = .ok (.bipush 6, 2) := by decide +kernel
theorem dX9_count_189 : decode cX9_count 189 = .ok (.iaload, 1) := by decide +kernel
theorem dX9_count_190 : decode cX9_count 190 = .ok (.ireturn, 1) := by decide +kernel
theorem dX9_count_191 : decode cX9_count 191 = .ok (.aload_n 0, 1) := by decide +kernel
theorem dX9_count_192 : decode cX9_count 192 = .ok (.getfield 13, 3) := by decide +kernel
theorem dX9_count_195 : decode cX9_count 195 = .ok (.bipush 7, 2) := by decide +kernel
theorem dX9_count_197 : decode cX9_count 197 = .ok (.iaload, 1) := by decide +kernel
theorem dX9_count_198 : decode cX9_count 198 = .ok (.ireturn, 1) := by decide +kernel
theorem dX9_count_199 : decode cX9_count 199 = .ok (.iconst (-1), 1) := by decide +kernel
theorem dX9_count_200 : decode cX9_count 200 = .ok (.ireturn, 1) := by decide +kernel
def bX9_count_0 (l : Launch) (E : Ev) (d : Nat) (Q : Option Value → Hp → Prop) : Kt := k_aload 0 (k_push (.int 0) (k_putI 9 55 0 (k_iload 1 (k_sw [(0, (k_aload 0 (k_getR 9 55 3 (k_push (.int 0) (k_iaload (k_iret .int Q)))))), (1, (k_aload 0 (k_getR 9 55 3 (k_push (.int 1) (k_iaload (k_iret .int Q)))))), (2, (k_aload 0 (k_getR 9 55 3 (k_push (.int 2) (k_iaload (k_iret .int Q)))))), (3, (k_aload 0 (k_getR 9 55 3 (k_push (.int 8) (k_iaload (k_iret .int Q)))))), (4, (k_aload 0 (k_getR 9 55 3 (k_push (.int 9) (k_iaload (k_iret .int Q)))))), (5, (k_aload 0 (k_getR 9 55 3 (k_push (.int 4) (k_iaload (k_iret .int Q)))))), (6, (k_aload 0 (k_getI 9 55 8 (k_iret .int Q)))), (7, (k_aload 0 (k_getR 9 55 2 (k_push (.int 1) (k_iaload (k_iret .int Q)))))), (8, (k_aload 0 (k_getR 9 55 2 (k_push (.int 2) (k_iaload (k_iret .int Q)))))), (9, (k_aload 0 (k_getR 9 55 2 (k_push (.int 3) (k_iaload (k_iret .int Q)))))), (10, (k_aload 0 (k_getR 9 55 2 (k_push (.int 5) (k_iaload (k_iret .int Q)))))), (11, (k_aload 0 (k_getR 9 55 2 (k_push (.int 6) (k_iaload (k_iret .int Q)))))), (12, (k_aload 0 (k_getR 9 55 3 (k_push (.int 3) (k_iaload (k_iret .int Q)))))), (13, (k_aload 0 (k_getR 9 55 3 (k_push (.int 5) (k_iaload (k_iret .int Q)))))), (14, (k_aload 0 (k_getR 9 55 3 (k_push (.int 6) (k_iaload (k_iret .int Q)))))), (15, (k_aload 0 (k_getR 9 55 3 (k_push (.int 7) (k_iaload (k_iret .int Q))))))] (k_push (.int (-1)) (k_iret .int Q))))))
set_option maxRecDepth 100000 in
set_option maxHeartbeats 4000000 in
theorem gX9_count_0 {l : Launch} {E : Ev} {d : Nat} {Q : Option Value → Hp → Prop} {ls : Lv} {st : List Value} {h : Hp} (hB : bX9_count_0 l E d Q ls st h) : Go l E YX9_count (d + 1) 0 0 Q 0 0 0 ls st h :=
  (sd_aload_n (i := 0) rfl dX9_count_0 (sd_iconst (v := 0) (by decide) dX9_count_1 (sd_putI clsX9 (f := 0) (by decide) (fun _ _ _ => rfl) rfl (Or.inl rfl) mw_1178 dX9_count_2 (sd_iload_n (i := 1) rfl dX9_count_5 (sd_table dX9_count_6 (dt := 199) (by decide) (sd_iconst (v := (-1)) (by decide) dX9_count_199 (sd_iret (ty := .int) rfl (by decide) (by decide) dX9_count_200)) rfl (tb_all (tb_cons (off := 78) (tgt := 84) (by decide) rfl (by decide) (sd_aload_n (i := 0) rfl dX9_count_84 (sd_getR clsX9 (f := 3) (by decide) (fun _ _ _ => rfl) mw_1181 dX9_count_85 (sd_iconst (v := 0) (by decide) dX9_count_88 (sd_iaload dX9_count_89 (sd_iret (ty := .int) rfl (by decide) (by decide) dX9_count_90))))) (tb_cons (off := 85) (tgt := 91) (by decide) rfl (by decide) (sd_aload_n (i := 0) rfl dX9_count_91 (sd_getR clsX9 (f := 3) (by decide) (fun _ _ _ => rfl) mw_1181 dX9_count_92 (sd_iconst (v := 1) (by decide) dX9_count_95 (sd_iaload dX9_count_96 (sd_iret (ty := .int) rfl (by decide) (by decide) dX9_count_97))))) (tb_cons (off := 92) (tgt := 98) (by decide) rfl (by decide) (sd_aload_n (i := 0) rfl dX9_count_98 (sd_getR clsX9 (f := 3) (by decide) (fun _ _ _ => rfl) mw_1181 dX9_count_99 (sd_iconst (v := 2) (by decide) dX9_count_102 (sd_iaload dX9_count_103 (sd_iret (ty := .int) rfl (by decide) (by decide) dX9_count_104))))) (tb_cons (off := 99) (tgt := 105) (by decide) rfl (by decide) (sd_aload_n (i := 0) rfl dX9_count_105 (sd_getR clsX9 (f := 3) (by decide) (fun _ _ _ => rfl) mw_1181 dX9_count_106 (sd_bipush (v := 8) (by decide) dX9_count_109 (sd_iaload dX9_count_111 (sd_iret (ty := .int) rfl (by decide) (by decide) dX9_count_112))))) (tb_cons (off := 107) (tgt := 113) (by decide) rfl (by decide) (sd_aload_n (i := 0) rfl dX9_count_113 (sd_getR clsX9 (f := 3) (by decide) (fun _ _ _ => rfl) mw_1181 dX9_count_114 (sd_bipush (v := 9) (by decide) dX9_count_117 (sd_iaload dX9_count_119 (sd_iret (ty := .int) rfl (by decide) (by decide) dX9_count_120))))) (tb_cons (off := 115) (tgt := 121) (by decide) rfl (by decide) (sd_aload_n (i := 0) rfl dX9_count_121 (sd_getR clsX9 (f := 3) (by decide) (fun _ _ _ => rfl) mw_1181 dX9_count_122 (sd_iconst (v := 4) (by decide) dX9_count_125 (sd_iaload dX9_count_126 (sd_iret (ty := .int) rfl (by decide) (by decide) dX9_count_127))))) (tb_cons (off := 122) (tgt := 128) (by decide) rfl (by decide) (sd_aload_n (i := 0) rfl dX9_count_128 (sd_getI clsX9 (f := 8) (by decide) (fun _ _ _ => rfl) mw_1186 dX9_count_129 (sd_iret (ty := .int) rfl (by decide) (by decide) dX9_count_132))) (tb_cons (off := 127) (tgt := 133) (by decide) rfl (by decide) (sd_aload_n (i := 0) rfl dX9_count_133 (sd_getR clsX9 (f := 2) (by decide) (fun _ _ _ => rfl) mw_1180 dX9_count_134 (sd_iconst (v := 1) (by decide) dX9_count_137 (sd_iaload dX9_count_138 (sd_iret (ty := .int) rfl (by decide) (by decide) dX9_count_139))))) (tb_cons (off := 134) (tgt := 140) (by decide) rfl (by decide) (sd_aload_n (i := 0) rfl dX9_count_140 (sd_getR clsX9 (f := 2) (by decide) (fun _ _ _ => rfl) mw_1180 dX9_count_141 (sd_iconst (v := 2) (by decide) dX9_count_144 (sd_iaload dX9_count_145 (sd_iret (ty := .int) rfl (by decide) (by decide) dX9_count_146))))) (tb_cons (off := 141) (tgt := 147) (by decide) rfl (by decide) (sd_aload_n (i := 0) rfl dX9_count_147 (sd_getR clsX9 (f := 2) (by decide) (fun _ _ _ => rfl) mw_1180 dX9_count_148 (sd_iconst (v := 3) (by decide) dX9_count_151 (sd_iaload dX9_count_152 (sd_iret (ty := .int) rfl (by decide) (by decide) dX9_count_153))))) (tb_cons (off := 148) (tgt := 154) (by decide) rfl (by decide) (sd_aload_n (i := 0) rfl dX9_count_154 (sd_getR clsX9 (f := 2) (by decide) (fun _ _ _ => rfl) mw_1180 dX9_count_155 (sd_iconst (v := 5) (by decide) dX9_count_158 (sd_iaload dX9_count_159 (sd_iret (ty := .int) rfl (by decide) (by decide) dX9_count_160))))) (tb_cons (off := 155) (tgt := 161) (by decide) rfl (by decide) (sd_aload_n (i := 0) rfl dX9_count_161 (sd_getR clsX9 (f := 2) (by decide) (fun _ _ _ => rfl) mw_1180 dX9_count_162 (sd_bipush (v := 6) (by decide) dX9_count_165 (sd_iaload dX9_count_167 (sd_iret (ty := .int) rfl (by decide) (by decide) dX9_count_168))))) (tb_cons (off := 163) (tgt := 169) (by decide) rfl (by decide) (sd_aload_n (i := 0) rfl dX9_count_169 (sd_getR clsX9 (f := 3) (by decide) (fun _ _ _ => rfl) mw_1181 dX9_count_170 (sd_iconst (v := 3) (by decide) dX9_count_173 (sd_iaload dX9_count_174 (sd_iret (ty := .int) rfl (by decide) (by decide) dX9_count_175))))) (tb_cons (off := 170) (tgt := 176) (by decide) rfl (by decide) (sd_aload_n (i := 0) rfl dX9_count_176 (sd_getR clsX9 (f := 3) (by decide) (fun _ _ _ => rfl) mw_1181 dX9_count_177 (sd_iconst (v := 5) (by decide) dX9_count_180 (sd_iaload dX9_count_181 (sd_iret (ty := .int) rfl (by decide) (by decide) dX9_count_182))))) (tb_cons (off := 177) (tgt := 183) (by decide) rfl (by decide) (sd_aload_n (i := 0) rfl dX9_count_183 (sd_getR clsX9 (f := 3) (by decide) (fun _ _ _ => rfl) mw_1181 dX9_count_184 (sd_bipush (v := 6) (by decide) dX9_count_187 (sd_iaload dX9_count_189 (sd_iret (ty := .int) rfl (by decide) (by decide) dX9_count_190))))) (tb_cons (off := 185) (tgt := 191) (by decide) rfl (by decide) (sd_aload_n (i := 0) rfl dX9_count_191 (sd_getR clsX9 (f := 3) (by decide) (fun _ _ _ => rfl) mw_1181 dX9_count_192 (sd_bipush (v := 7) (by decide) dX9_count_195 (sd_iaload dX9_count_197 (sd_iret (ty := .int) rfl (by decide) (by decide) dX9_count_198))))) (tb_nil)))))))))))))))))))))) : Sd l E YX9_count (d + 1) 0 0 Q 0 0 0 (bX9_count_0 l E d Q)) ls st h hB
theorem eX9_count {l : Launch} {E : Ev} {d : Nat} {Q : Option Value → Hp → Prop} {h : Hp} {a0 : Nat} {x1 : Int32} (hk : Go l E YX9_count d 0 0 Q 0 0 0 [some (.ref a0), some (.int x1)] [] h) : GoM l E YX9_count d 0 0 [.ref a0, .int x1] h Q := GoM.of (by decide +kernel) rfl (by simp [entA, YX9_count]) hk
theorem dX9_status_0 : decode cX9_status 0 = .ok (.aload_n 0, 1) := by decide +kernel
theorem dX9_status_1 : decode cX9_status 1 = .ok (.iconst 0, 1) := by decide +kernel
theorem dX9_status_2 : decode cX9_status 2 = .ok (.putfield 123, 3) := by decide +kernel
theorem dX9_status_5 : decode cX9_status 5 = .ok (.aload_n 0, 1) := by decide +kernel
theorem dX9_status_6 : decode cX9_status 6 = .ok (.getfield 126, 3) := by decide +kernel
theorem dX9_status_9 : decode cX9_status 9 = .ok (.ireturn, 1) := by decide +kernel
def bX9_status_0 (l : Launch) (E : Ev) (d : Nat) (Q : Option Value → Hp → Prop) : Kt := k_aload 0 (k_push (.int 0) (k_putI 9 55 0 (k_aload 0 (k_getI 9 55 1 (k_iret .int Q)))))
set_option maxRecDepth 100000 in
set_option maxHeartbeats 4000000 in
theorem gX9_status_0 {l : Launch} {E : Ev} {d : Nat} {Q : Option Value → Hp → Prop} {ls : Lv} {st : List Value} {h : Hp} (hB : bX9_status_0 l E d Q ls st h) : Go l E YX9_status (d + 1) 0 0 Q 0 0 0 ls st h :=
  (sd_aload_n (i := 0) rfl dX9_status_0 (sd_iconst (v := 0) (by decide) dX9_status_1 (sd_putI clsX9 (f := 0) (by decide) (fun _ _ _ => rfl) rfl (Or.inl rfl) mw_1178 dX9_status_2 (sd_aload_n (i := 0) rfl dX9_status_5 (sd_getI clsX9 (f := 1) (by decide) (fun _ _ _ => rfl) mw_1179 dX9_status_6 (sd_iret (ty := .int) rfl (by decide) (by decide) dX9_status_9))))) : Sd l E YX9_status (d + 1) 0 0 Q 0 0 0 (bX9_status_0 l E d Q)) ls st h hB
theorem eX9_status {l : Launch} {E : Ev} {d : Nat} {Q : Option Value → Hp → Prop} {h : Hp} {a0 : Nat} (hk : Go l E YX9_status d 0 0 Q 0 0 0 [some (.ref a0)] [] h) : GoM l E YX9_status d 0 0 [.ref a0] h Q := GoM.of (by decide +kernel) rfl (by simp [entA, YX9_status]) hk
