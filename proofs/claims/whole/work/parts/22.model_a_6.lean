theorem dX9_odds_0 : decode cX9_odds 0 = .ok (.aload_n 0, 1) := by decide +kernel
theorem dX9_odds_1 : decode cX9_odds 1 = .ok (.iconst 0, 1) := by decide +kernel
theorem dX9_odds_2 : decode cX9_odds 2 = .ok (.putfield 123, 3) := by decide +kernel
theorem dX9_odds_5 : decode cX9_odds 5 = .ok (.iload_n 1, 1) := by decide +kernel
theorem dX9_odds_6 : decode cX9_odds 6 = .ok (.i2l, 1) := by decide +kernel
theorem dX9_odds_7 : decode cX9_odds 7 = .ok (.lconst 0, 1) := by decide +kernel
theorem dX9_odds_8 : decode cX9_odds 8 = .ok (.lconst 1, 1) := by decide +kernel
theorem dX9_odds_9 : decode cX9_odds 9 = .ok (.invokestatic 133, 3) := by decide +kernel
theorem dX9_odds_12 : decode cX9_odds 12 = .ok (.ifCond .ne 7, 3) := by decide +kernel
theorem dX9_odds_15 : decode cX9_odds 15 = .ok (.ldc2_w 211, 3) := by decide +kernel
theorem dX9_odds_18 : decode cX9_odds 18 = .ok (.lreturn, 1) := by decide +kernel
theorem dX9_odds_19 : decode cX9_odds 19 = .ok (.aload_n 0, 1) := by decide +kernel
theorem dX9_odds_20 : decode cX9_odds 20 = .ok (.invokevirtual 351, 3) := by decide +kernel
theorem dX9_odds_23 : decode cX9_odds 23 = .ok (.aload_n 0, 1) := by decide +kernel
theorem dX9_odds_24 : decode cX9_odds 24 = .ok (.invokevirtual 354, 3) := by decide +kernel
theorem dX9_odds_27 : decode cX9_odds 27 = .ok (.aload_n 0, 1) := by decide +kernel
theorem dX9_odds_28 : decode cX9_odds 28 = .ok (.invokevirtual 388, 3) := by decide +kernel
theorem dX9_odds_31 : decode cX9_odds 31 = .ok (.lconst 0, 1) := by decide +kernel
theorem dX9_odds_32 : decode cX9_odds 32 = .ok (.lstore_n 2, 1) := by decide +kernel
theorem dX9_odds_33 : decode cX9_odds 33 = .ok (.iconst 0, 1) := by decide +kernel
theorem dX9_odds_34 : decode cX9_odds 34 = .ok (.istore 4, 2) := by decide +kernel
theorem dX9_odds_36 : decode cX9_odds 36 = .ok (.iload 4, 2) := by decide +kernel
theorem dX9_odds_38 : decode cX9_odds 38 = .ok (.iconst 1, 1) := by decide +kernel
theorem dX9_odds_39 : decode cX9_odds 39 = .ok (.aload_n 0, 1) := by decide +kernel
theorem dX9_odds_40 : decode cX9_odds 40 = .ok (.getfield 13, 3) := by decide +kernel
theorem dX9_odds_43 : decode cX9_odds 43 = .ok (.iconst 0, 1) := by decide +kernel
theorem dX9_odds_44 : decode cX9_odds 44 = .ok (.iaload, 1) := by decide +kernel
theorem dX9_odds_45 : decode cX9_odds 45 = .ok (.ishl, 1) := by decide +kernel
theorem dX9_odds_46 : decode cX9_odds 46 = .ok (.if_icmp .ge 123, 3) := by decide +kernel
theorem dX9_odds_49 : decode cX9_odds 49 = .ok (.lconst 1, 1) := by decide +kernel
theorem dX9_odds_50 : decode cX9_odds 50 = .ok (.lstore 5, 2) := by decide +kernel
theorem dX9_odds_52 : decode cX9_odds 52 = .ok (.iconst 0, 1) := by decide +kernel
theorem dX9_odds_53 : decode cX9_odds 53 = .ok (.istore 7, 2) := by decide +kernel
theorem dX9_odds_55 : decode cX9_odds 55 = .ok (.iload 7, 2) := by decide +kernel
theorem dX9_odds_57 : decode cX9_odds 57 = .ok (.aload_n 0, 1) := by decide +kernel
theorem dX9_odds_58 : decode cX9_odds 58 = .ok (.getfield 13, 3) := by decide +kernel
theorem dX9_odds_61 : decode cX9_odds 61 = .ok (.iconst 0, 1) := by decide +kernel
theorem dX9_odds_62 : decode cX9_odds 62 = .ok (.iaload, 1) := by decide +kernel
theorem dX9_odds_63 : decode cX9_odds 63 = .ok (.if_icmp .ge 52, 3) := by decide +kernel
theorem dX9_odds_66 : decode cX9_odds 66 = .ok (.aload_n 0, 1) := by decide +kernel
theorem dX9_odds_67 : decode cX9_odds 67 = .ok (.getfield 13, 3) := by decide +kernel
theorem dX9_odds_70 : decode cX9_odds 70 = .ok (.bipush 10, 2) := by decide +kernel
theorem dX9_odds_72 : decode cX9_odds 72 = .ok (.iconst 4, 1) := by decide +kernel
theorem dX9_odds_73 : decode cX9_odds 73 = .ok (.iload 7, 2) := by decide +kernel
theorem dX9_odds_75 : decode cX9_odds 75 = .ok (.imul, 1) := by decide +kernel
theorem dX9_odds_76 : decode cX9_odds 76 = .ok (.iadd, 1) := by decide +kernel
theorem dX9_odds_77 : decode cX9_odds 77 = .ok (.iconst 3, 1) := by decide +kernel
theorem dX9_odds_78 : decode cX9_odds 78 = .ok (.iadd, 1) := by decide +kernel
theorem dX9_odds_79 : decode cX9_odds 79 = .ok (.iaload, 1) := by decide +kernel
theorem dX9_odds_80 : decode cX9_odds 80 = .ok (.istore 8, 2) := by decide +kernel
theorem dX9_odds_82 : decode cX9_odds 82 = .ok (.lload 5, 2) := by decide +kernel
theorem dX9_odds_84 : decode cX9_odds 84 = .ok (.iload 4, 2) := by decide +kernel
theorem dX9_odds_86 : decode cX9_odds 86 = .ok (.iload 7, 2) := by decide +kernel
theorem dX9_odds_88 : decode cX9_odds 88 = .ok (.invokestatic 363, 3) := by decide +kernel
theorem dX9_odds_91 : decode cX9_odds 91 = .ok (.ifCond .eq 9, 3) := by decide +kernel
theorem dX9_odds_94 : decode cX9_odds 94 = .ok (.iload 8, 2) := by decide +kernel
theorem dX9_odds_96 : decode cX9_odds 96 = .ok (.i2l, 1) := by decide +kernel
theorem dX9_odds_97 : decode cX9_odds 97 = .ok (.goto 9, 3) := by decide +kernel
theorem dX9_odds_100 : decode cX9_odds 100 = .ok (.bipush 100, 2) := by decide +kernel
theorem dX9_odds_102 : decode cX9_odds 102 = .ok (.iload 8, 2) := by decide +kernel
theorem dX9_odds_104 : decode cX9_odds 104 = .ok (.isub, 1) := by decide +kernel
theorem dX9_odds_105 : decode cX9_odds 105 = .ok (.i2l, 1) := by decide +kernel
theorem dX9_odds_106 : decode cX9_odds 106 = .ok (.lmul, 1) := by decide +kernel
theorem dX9_odds_107 : decode cX9_odds 107 = .ok (.lstore 5, 2) := by decide +kernel
theorem dX9_odds_109 : decode cX9_odds 109 = .ok (.iinc 7 1, 3) := by decide +kernel
theorem dX9_odds_112 : decode cX9_odds 112 = .ok (.goto (-57), 3) := by decide +kernel
theorem dX9_odds_115 : decode cX9_odds 115 = .ok (.aload_n 0, 1) := by decide +kernel
theorem dX9_odds_116 : decode cX9_odds 116 = .ok (.iload 4, 2) := by decide +kernel
theorem dX9_odds_118 : decode cX9_odds 118 = .ok (.invokevirtual 391, 3) := by decide +kernel
theorem dX9_odds_121 : decode cX9_odds 121 = .ok (.lload_n 2, 1) := by decide +kernel
theorem dX9_odds_122 : decode cX9_odds 122 = .ok (.iload_n 1, 1) := by decide +kernel
theorem dX9_odds_123 : decode cX9_odds 123 = .ok (.ifCond .ne 19, 3) := by decide +kernel
theorem dX9_odds_126 : decode cX9_odds 126 = .ok (.aload_n 0, 1) := by decide +kernel
theorem dX9_odds_127 : decode cX9_odds 127 = .ok (.getfield 382, 3) := by decide +kernel
theorem dX9_odds_130 : decode cX9_odds 130 = .ok (.ifCond .ne 8, 3) := by decide +kernel
theorem dX9_odds_133 : decode cX9_odds 133 = .ok (.lload 5, 2) := by decide +kernel
theorem dX9_odds_135 : decode cX9_odds 135 = .ok (.goto 26, 3) := by decide +kernel
theorem dX9_odds_138 : decode cX9_odds 138 = .ok (.lconst 0, 1) := by decide +kernel
theorem dX9_odds_139 : decode cX9_odds 139 = .ok (.goto 22, 3) := by decide +kernel
theorem dX9_odds_142 : decode cX9_odds 142 = .ok (.aload_n 0, 1) := by decide +kernel
theorem dX9_odds_143 : decode cX9_odds 143 = .ok (.getfield 382, 3) := by decide +kernel
theorem dX9_odds_146 : decode cX9_odds 146 = .ok (.ifCond .ne 7, 3) := by decide +kernel
theorem dX9_odds_149 : decode cX9_odds 149 = .ok (.lconst 0, 1) := by decide +kernel
theorem dX9_odds_150 : decode cX9_odds 150 = .ok (.goto 11, 3) := by decide +kernel
theorem dX9_odds_153 : decode cX9_odds 153 = .ok (.lload 5, 2) := by decide +kernel
theorem dX9_odds_155 : decode cX9_odds 155 = .ok (.aload_n 0, 1) := by decide +kernel
theorem dX9_odds_156 : decode cX9_odds 156 = .ok (.getfield 376, 3) := by decide +kernel
theorem dX9_odds_159 : decode cX9_odds 159 = .ok (.i2l, 1) := by decide +kernel
theorem dX9_odds_160 : decode cX9_odds 160 = .ok (.lmul, 1) := by decide +kernel
theorem dX9_odds_161 : decode cX9_odds 161 = .ok (.ladd, 1) := by decide +kernel
theorem dX9_odds_162 : decode cX9_odds 162 = .ok (.lstore_n 2, 1) := by decide +kernel
theorem dX9_odds_163 : decode cX9_odds 163 = .ok (.iinc 4 1, 3) := by decide +kernel
theorem dX9_odds_166 : decode cX9_odds 166 = .ok (.goto (-130), 3) := by decide +kernel
theorem dX9_odds_169 : decode cX9_odds 169 = .ok (.lload_n 2, 1) := by decide +kernel
theorem dX9_odds_170 : decode cX9_odds 170 = .ok (.lreturn, 1) := by decide +kernel
def bX9_odds_0 (l : Launch) (E : Ev) (d : Nat) (Q : Option Value → Hp → Prop) : Kt := k_aload 0 (k_push (.int 0) (k_putI 9 55 0 (k_iload 1 (k_i2l (k_push (.long 0) (k_push (.long 1) (k_callS l E YX9_in d 0 0 3 (k_if_ne (k_aload 0 (k_callV l E 9 55 YX9_asIs d 0 0 0 (k_aload 0 (k_callV l E 9 55 YX9_find d 0 0 0 (k_aload 0 (k_callV l E 9 55 YX9_free d 0 0 0 (k_push (.long 0) (k_lstore 2 (k_push (.int 0) (k_istore 4 (Go l E YX9_odds (d + 1) 0 0 Q 0 0 36))))))))))) (k_push (.long (-1)) (k_lret Q))))))))))
set_option maxRecDepth 100000 in
set_option maxHeartbeats 4000000 in
theorem gX9_odds_0 {l : Launch} {E : Ev} {d : Nat} {Q : Option Value → Hp → Prop} {ls : Lv} {st : List Value} {h : Hp} (hB : bX9_odds_0 l E d Q ls st h) : Go l E YX9_odds (d + 1) 0 0 Q 0 0 0 ls st h :=
  (sd_aload_n (i := 0) rfl dX9_odds_0 (sd_iconst (v := 0) (by decide) dX9_odds_1 (sd_putI clsX9 (f := 0) (by decide) (fun _ _ _ => rfl) rfl (Or.inl rfl) mw_1178 dX9_odds_2 (sd_iload_n (i := 1) rfl dX9_odds_5 (sd_i2l dX9_odds_6 (sd_lconst (v := 0) (by decide) dX9_odds_7 (sd_lconst (v := 1) (by decide) dX9_odds_8 (sd_callS (Y' := YX9_in) (mc' := 0) (ms' := 0) (n := 3) mw_1348 mw_1349 mw_108 mw_1350 (okmX9_in) (by decide) (Nat.le_refl _) (by decide) (by decide) dX9_odds_9 (sd_if_ne (tgt := 19) (by decide) dX9_odds_12 (sd_aload_n (i := 0) rfl dX9_odds_19 (sd_callV (Y' := YX9_asIs) (mc' := 0) (ms' := 0) (n := 0) clsX9.1 mw_1559 mw_1561 mw_71 mw_108 mw_1562 rfl (okmX9_asIs) (by decide) (Nat.le_refl _) (by decide) (by decide) dX9_odds_20 (sd_aload_n (i := 0) rfl dX9_odds_23 (sd_callV (Y' := YX9_find) (mc' := 0) (ms' := 0) (n := 0) clsX9.1 mw_1563 mw_1565 mw_72 mw_108 mw_1566 rfl (okmX9_find) (by decide) (Nat.le_refl _) (by decide) (by decide) dX9_odds_24 (sd_aload_n (i := 0) rfl dX9_odds_27 (sd_callV (Y' := YX9_free) (mc' := 0) (ms' := 0) (n := 0) clsX9.1 mw_1594 mw_1596 mw_78 mw_108 mw_1597 rfl (okmX9_free) (by decide) (Nat.le_refl _) (by decide) (by decide) dX9_odds_28 (sd_lconst (v := 0) (by decide) dX9_odds_31 (sd_lstore_n (i := 2) rfl (by decide) dX9_odds_32 (sd_iconst (v := 0) (by decide) dX9_odds_33 (sd_istore (i := 4) (by decide) dX9_odds_34 (Sd.go))))))))))) (sd_ldc2 (v := (-1)) mw_1466 dX9_odds_15 (sd_lret rfl (by decide) (by decide) dX9_odds_18)))))))))) : Sd l E YX9_odds (d + 1) 0 0 Q 0 0 0 (bX9_odds_0 l E d Q)) ls st h hB
def bX9_odds_36 (l : Launch) (E : Ev) (d : Nat) (Q : Option Value → Hp → Prop) : Kt := k_iload 4 (k_push (.int 1) (k_aload 0 (k_getR 9 55 3 (k_push (.int 0) (k_iaload (k_ishl (k_icmp_ge (k_lload 2 (k_lret Q)) (k_push (.long 1) (k_lstore 5 (k_push (.int 0) (k_istore 7 (Go l E YX9_odds (d + 1) 0 0 Q 0 0 55))))))))))))
set_option maxRecDepth 100000 in
set_option maxHeartbeats 4000000 in
theorem gX9_odds_36 {l : Launch} {E : Ev} {d : Nat} {Q : Option Value → Hp → Prop} {ls : Lv} {st : List Value} {h : Hp} (hB : bX9_odds_36 l E d Q ls st h) : Go l E YX9_odds (d + 1) 0 0 Q 0 0 36 ls st h :=
  (sd_iload (n := 4) dX9_odds_36 (sd_iconst (v := 1) (by decide) dX9_odds_38 (sd_aload_n (i := 0) rfl dX9_odds_39 (sd_getR clsX9 (f := 3) (by decide) (fun _ _ _ => rfl) mw_1181 dX9_odds_40 (sd_iconst (v := 0) (by decide) dX9_odds_43 (sd_iaload dX9_odds_44 (sd_ishl dX9_odds_45 (sd_icmp_ge (tgt := 169) (by decide) dX9_odds_46 (sd_lload_n (i := 2) rfl dX9_odds_169 (sd_lret rfl (by decide) (by decide) dX9_odds_170)) (sd_lconst (v := 1) (by decide) dX9_odds_49 (sd_lstore (i := 5) (by decide) dX9_odds_50 (sd_iconst (v := 0) (by decide) dX9_odds_52 (sd_istore (i := 7) (by decide) dX9_odds_53 (Sd.go)))))))))))) : Sd l E YX9_odds (d + 1) 0 0 Q 0 0 36 (bX9_odds_36 l E d Q)) ls st h hB
def bX9_odds_55 (l : Launch) (E : Ev) (d : Nat) (Q : Option Value → Hp → Prop) : Kt := k_iload 7 (k_aload 0 (k_getR 9 55 3 (k_push (.int 0) (k_iaload (k_icmp_ge (k_aload 0 (k_iload 4 (k_callV l E 9 55 YX9_fill d 0 0 1 (k_lload 2 (k_iload 1 (k_if_ne (k_aload 0 (k_getI 9 55 43 (k_if_ne (k_lload 5 (k_aload 0 (k_getI 9 55 41 (k_i2l (k_lmul (k_ladd (k_lstore 2 (k_iinc 4 1 (Go l E YX9_odds (d + 1) 0 0 Q 0 0 36))))))))) (k_push (.long 0) (k_ladd (k_lstore 2 (k_iinc 4 1 (Go l E YX9_odds (d + 1) 0 0 Q 0 0 36)))))))) (k_aload 0 (k_getI 9 55 43 (k_if_ne (k_push (.long 0) (k_ladd (k_lstore 2 (k_iinc 4 1 (Go l E YX9_odds (d + 1) 0 0 Q 0 0 36))))) (k_lload 5 (k_ladd (k_lstore 2 (k_iinc 4 1 (Go l E YX9_odds (d + 1) 0 0 Q 0 0 36)))))))))))))) (k_aload 0 (k_getR 9 55 3 (k_push (.int 10) (k_push (.int 4) (k_iload 7 (k_imul (k_iadd (k_push (.int 3) (k_iadd (k_iaload (k_istore 8 (k_lload 5 (k_iload 4 (k_iload 7 (k_callS l E YX9_is d 0 0 2 (k_if_eq (k_push (.int 100) (k_iload 8 (k_isub (k_i2l (k_lmul (k_lstore 5 (k_iinc 7 1 (Go l E YX9_odds (d + 1) 0 0 Q 0 0 55)))))))) (k_iload 8 (k_i2l (k_lmul (k_lstore 5 (k_iinc 7 1 (Go l E YX9_odds (d + 1) 0 0 Q 0 0 55)))))))))))))))))))))))))))
set_option maxRecDepth 100000 in
set_option maxHeartbeats 4000000 in
theorem gX9_odds_55 {l : Launch} {E : Ev} {d : Nat} {Q : Option Value → Hp → Prop} {ls : Lv} {st : List Value} {h : Hp} (hB : bX9_odds_55 l E d Q ls st h) : Go l E YX9_odds (d + 1) 0 0 Q 0 0 55 ls st h :=
  (sd_iload (n := 7) dX9_odds_55 (sd_aload_n (i := 0) rfl dX9_odds_57 (sd_getR clsX9 (f := 3) (by decide) (fun _ _ _ => rfl) mw_1181 dX9_odds_58 (sd_iconst (v := 0) (by decide) dX9_odds_61 (sd_iaload dX9_odds_62 (sd_icmp_ge (tgt := 115) (by decide) dX9_odds_63 (sd_aload_n (i := 0) rfl dX9_odds_115 (sd_iload (n := 4) dX9_odds_116 (sd_callV (Y' := YX9_fill) (mc' := 0) (ms' := 0) (n := 1) clsX9.1 mw_1598 mw_1600 mw_79 mw_108 mw_1601 rfl (okmX9_fill) (by decide) (Nat.le_refl _) (by decide) (by decide) dX9_odds_118 (sd_lload_n (i := 2) rfl dX9_odds_121 (sd_iload_n (i := 1) rfl dX9_odds_122 (sd_if_ne (tgt := 142) (by decide) dX9_odds_123 (sd_aload_n (i := 0) rfl dX9_odds_142 (sd_getI clsX9 (f := 43) (by decide) (fun _ _ _ => rfl) mw_1221 dX9_odds_143 (sd_if_ne (tgt := 153) (by decide) dX9_odds_146 (sd_lload (n := 5) dX9_odds_153 (sd_aload_n (i := 0) rfl dX9_odds_155 (sd_getI clsX9 (f := 41) (by decide) (fun _ _ _ => rfl) mw_1219 dX9_odds_156 (sd_i2l dX9_odds_159 (sd_lmul dX9_odds_160 (sd_ladd dX9_odds_161 (sd_lstore_n (i := 2) rfl (by decide) dX9_odds_162 (sd_iinc (i := 4) (v := 1) (by decide) (by decide) dX9_odds_163 (sd_goto (tgt := 36) (by decide) dX9_odds_166 (Sd.go)))))))))) (sd_lconst (v := 0) (by decide) dX9_odds_149 (sd_goto (tgt := 161) (by decide) dX9_odds_150 (sd_ladd dX9_odds_161 (sd_lstore_n (i := 2) rfl (by decide) dX9_odds_162 (sd_iinc (i := 4) (v := 1) (by decide) (by decide) dX9_odds_163 (sd_goto (tgt := 36) (by decide) dX9_odds_166 (Sd.go)))))))))) (sd_aload_n (i := 0) rfl dX9_odds_126 (sd_getI clsX9 (f := 43) (by decide) (fun _ _ _ => rfl) mw_1221 dX9_odds_127 (sd_if_ne (tgt := 138) (by decide) dX9_odds_130 (sd_lconst (v := 0) (by decide) dX9_odds_138 (sd_goto (tgt := 161) (by decide) dX9_odds_139 (sd_ladd dX9_odds_161 (sd_lstore_n (i := 2) rfl (by decide) dX9_odds_162 (sd_iinc (i := 4) (v := 1) (by decide) (by decide) dX9_odds_163 (sd_goto (tgt := 36) (by decide) dX9_odds_166 (Sd.go))))))) (sd_lload (n := 5) dX9_odds_133 (sd_goto (tgt := 161) (by decide) dX9_odds_135 (sd_ladd dX9_odds_161 (sd_lstore_n (i := 2) rfl (by decide) dX9_odds_162 (sd_iinc (i := 4) (v := 1) (by decide) (by decide) dX9_odds_163 (sd_goto (tgt := 36) (by decide) dX9_odds_166 (Sd.go)))))))))))))))) (sd_aload_n (i := 0) rfl dX9_odds_66 (sd_getR clsX9 (f := 3) (by decide) (fun _ _ _ => rfl) mw_1181 dX9_odds_67 (sd_bipush (v := 10) (by decide) dX9_odds_70 (sd_iconst (v := 4) (by decide) dX9_odds_72 (sd_iload (n := 7) dX9_odds_73 (sd_imul dX9_odds_75 (sd_iadd dX9_odds_76 (sd_iconst (v := 3) (by decide) dX9_odds_77 (sd_iadd dX9_odds_78 (sd_iaload dX9_odds_79 (sd_istore (i := 8) (by decide) dX9_odds_80 (sd_lload (n := 5) dX9_odds_82 (sd_iload (n := 4) dX9_odds_84 (sd_iload (n := 7) dX9_odds_86 (sd_callS (Y' := YX9_is) (mc' := 0) (ms' := 0) (n := 2) mw_1603 mw_1604 mw_108 mw_1605 (okmX9_is) (by decide) (Nat.le_refl _) (by decide) (by decide) dX9_odds_88 (sd_if_eq (tgt := 100) (by decide) dX9_odds_91 (sd_bipush (v := 100) (by decide) dX9_odds_100 (sd_iload (n := 8) dX9_odds_102 (sd_isub dX9_odds_104 (sd_i2l dX9_odds_105 (sd_lmul dX9_odds_106 (sd_lstore (i := 5) (by decide) dX9_odds_107 (sd_iinc (i := 7) (v := 1) (by decide) (by decide) dX9_odds_109 (sd_goto (tgt := 55) (by decide) dX9_odds_112 (Sd.go))))))))) (sd_iload (n := 8) dX9_odds_94 (sd_i2l dX9_odds_96 (sd_goto (tgt := 106) (by decide) dX9_odds_97 (sd_lmul dX9_odds_106 (sd_lstore (i := 5) (by decide) dX9_odds_107 (sd_iinc (i := 7) (v := 1) (by decide) (by decide) dX9_odds_109 (sd_goto (tgt := 55) (by decide) dX9_odds_112 (Sd.go))))))))))))))))))))))))))))) : Sd l E YX9_odds (d + 1) 0 0 Q 0 0 55 (bX9_odds_55 l E d Q)) ls st h hB
theorem eX9_odds {l : Launch} {E : Ev} {d : Nat} {Q : Option Value → Hp → Prop} {h : Hp} {a0 : Nat} {x1 : Int32} (hk : Go l E YX9_odds d 0 0 Q 0 0 0 [some (.ref a0), some (.int x1), none, none, none, none, none, none, none] [] h) : GoM l E YX9_odds d 0 0 [.ref a0, .int x1] h Q := GoM.of (by decide +kernel) rfl (by simp [entA, YX9_odds]) hk
theorem dX9_isLesson_0 : decode cX9_isLesson 0 = .ok (.iload_n 1, 1) := by decide +kernel
theorem dX9_isLesson_1 : decode cX9_isLesson 1 = .ok (.i2l, 1) := by decide +kernel
theorem dX9_isLesson_2 : decode cX9_isLesson 2 = .ok (.lconst 0, 1) := by decide +kernel
theorem dX9_isLesson_3 : decode cX9_isLesson 3 = .ok (.aload_n 0, 1) := by decide +kernel
theorem dX9_isLesson_4 : decode cX9_isLesson 4 = .ok (.getfield 13, 3) := by decide +kernel
theorem dX9_isLesson_7 : decode cX9_isLesson 7 = .ok (.bipush 8, 2) := by decide +kernel
theorem dX9_isLesson_9 : decode cX9_isLesson 9 = .ok (.iaload, 1) := by decide +kernel
theorem dX9_isLesson_10 : decode cX9_isLesson 10 = .ok (.i2l, 1) := by decide +kernel
theorem dX9_isLesson_11 : decode cX9_isLesson 11 = .ok (.lconst 1, 1) := by decide +kernel
theorem dX9_isLesson_12 : decode cX9_isLesson 12 = .ok (.lsub, 1) := by decide +kernel
theorem dX9_isLesson_13 : decode cX9_isLesson 13 = .ok (.invokestatic 133, 3) := by decide +kernel
theorem dX9_isLesson_16 : decode cX9_isLesson 16 = .ok (.ireturn, 1) := by decide +kernel
def bX9_isLesson_0 (l : Launch) (E : Ev) (d : Nat) (Q : Option Value → Hp → Prop) : Kt := k_iload 1 (k_i2l (k_push (.long 0) (k_aload 0 (k_getR 9 55 3 (k_push (.int 8) (k_iaload (k_i2l (k_push (.long 1) (k_lsub (k_callS l E YX9_in d 0 0 3 (k_iret .boolean Q)))))))))))
set_option maxRecDepth 100000 in
set_option maxHeartbeats 4000000 in
theorem gX9_isLesson_0 {l : Launch} {E : Ev} {d : Nat} {Q : Option Value → Hp → Prop} {ls : Lv} {st : List Value} {h : Hp} (hB : bX9_isLesson_0 l E d Q ls st h) : Go l E YX9_isLesson (d + 1) 0 0 Q 0 0 0 ls st h :=
  (sd_iload_n (i := 1) rfl dX9_isLesson_0 (sd_i2l dX9_isLesson_1 (sd_lconst (v := 0) (by decide) dX9_isLesson_2 (sd_aload_n (i := 0) rfl dX9_isLesson_3 (sd_getR clsX9 (f := 3) (by decide) (fun _ _ _ => rfl) mw_1181 dX9_isLesson_4 (sd_bipush (v := 8) (by decide) dX9_isLesson_7 (sd_iaload dX9_isLesson_9 (sd_i2l dX9_isLesson_10 (sd_lconst (v := 1) (by decide) dX9_isLesson_11 (sd_lsub dX9_isLesson_12 (sd_callS (Y' := YX9_in) (mc' := 0) (ms' := 0) (n := 3) mw_1348 mw_1349 mw_108 mw_1350 (okmX9_in) (by decide) (Nat.le_refl _) (by decide) (by decide) dX9_isLesson_13 (sd_iret (ty := .boolean) rfl (by decide) (by decide) dX9_isLesson_16))))))))))) : Sd l E YX9_isLesson (d + 1) 0 0 Q 0 0 0 (bX9_isLesson_0 l E d Q)) ls st h hB
theorem eX9_isLesson {l : Launch} {E : Ev} {d : Nat} {Q : Option Value → Hp → Prop} {h : Hp} {a0 : Nat} {x1 : Int32} (hk : Go l E YX9_isLesson d 0 0 Q 0 0 0 [some (.ref a0), some (.int x1)] [] h) : GoM l E YX9_isLesson d 0 0 [.ref a0, .int x1] h Q := GoM.of (by decide +kernel) rfl (by simp [entA, YX9_isLesson]) hk
theorem dX9_ofLesson_0 : decode cX9_ofLesson 0 = .ok (.aload_n 0, 1) := by decide +kernel
theorem dX9_ofLesson_1 : decode cX9_ofLesson 1 = .ok (.getfield 13, 3) := by decide +kernel
theorem dX9_ofLesson_4 : decode cX9_ofLesson 4 = .ok (.sipush 138, 3) := by decide +kernel
theorem dX9_ofLesson_7 : decode cX9_ofLesson 7 = .ok (.iconst 4, 1) := by decide +kernel
theorem dX9_ofLesson_8 : decode cX9_ofLesson 8 = .ok (.iload_n 1, 1) := by decide +kernel
theorem dX9_ofLesson_9 : decode cX9_ofLesson 9 = .ok (.imul, 1) := by decide +kernel
theorem dX9_ofLesson_10 : decode cX9_ofLesson 10 = .ok (.iadd, 1) := by decide +kernel
theorem dX9_ofLesson_11 : decode cX9_ofLesson 11 = .ok (.iload_n 2, 1) := by decide +kernel
theorem dX9_ofLesson_12 : decode cX9_ofLesson 12 = .ok (.iadd, 1) := by decide +kernel
theorem dX9_ofLesson_13 : decode cX9_ofLesson 13 = .ok (.iaload, 1) := by decide +kernel
theorem dX9_ofLesson_14 : decode cX9_ofLesson 14 = .ok (.ireturn, 1) := by decide +kernel
def bX9_ofLesson_0 (l : Launch) (E : Ev) (d : Nat) (Q : Option Value → Hp → Prop) : Kt := k_aload 0 (k_getR 9 55 3 (k_push (.int 138) (k_push (.int 4) (k_iload 1 (k_imul (k_iadd (k_iload 2 (k_iadd (k_iaload (k_iret .int Q))))))))))
set_option maxRecDepth 100000 in
set_option maxHeartbeats 4000000 in
theorem gX9_ofLesson_0 {l : Launch} {E : Ev} {d : Nat} {Q : Option Value → Hp → Prop} {ls : Lv} {st : List Value} {h : Hp} (hB : bX9_ofLesson_0 l E d Q ls st h) : Go l E YX9_ofLesson (d + 1) 0 0 Q 0 0 0 ls st h :=
  (sd_aload_n (i := 0) rfl dX9_ofLesson_0 (sd_getR clsX9 (f := 3) (by decide) (fun _ _ _ => rfl) mw_1181 dX9_ofLesson_1 (sd_sipush (v := 138) (by decide) dX9_ofLesson_4 (sd_iconst (v := 4) (by decide) dX9_ofLesson_7 (sd_iload_n (i := 1) rfl dX9_ofLesson_8 (sd_imul dX9_ofLesson_9 (sd_iadd dX9_ofLesson_10 (sd_iload_n (i := 2) rfl dX9_ofLesson_11 (sd_iadd dX9_ofLesson_12 (sd_iaload dX9_ofLesson_13 (sd_iret (ty := .int) rfl (by decide) (by decide) dX9_ofLesson_14)))))))))) : Sd l E YX9_ofLesson (d + 1) 0 0 Q 0 0 0 (bX9_ofLesson_0 l E d Q)) ls st h hB
theorem eX9_ofLesson {l : Launch} {E : Ev} {d : Nat} {Q : Option Value → Hp → Prop} {h : Hp} {a0 : Nat} {x1 : Int32} {x2 : Int32} (hk : Go l E YX9_ofLesson d 0 0 Q 0 0 0 [some (.ref a0), some (.int x1), some (.int x2)] [] h) : GoM l E YX9_ofLesson d 0 0 [.ref a0, .int x1, .int x2] h Q := GoM.of (by decide +kernel) rfl (by simp [entA, YX9_ofLesson]) hk
theorem dX9_lesson_0 : decode cX9_lesson 0 = .ok (.aload_n 0, 1) := by decide +kernel
theorem dX9_lesson_1 : decode cX9_lesson 1 = .ok (.iconst 0, 1) := by decide +kernel
theorem dX9_lesson_2 : decode cX9_lesson 2 = .ok (.putfield 123, 3) := by decide +kernel
theorem dX9_lesson_5 : decode cX9_lesson 5 = .ok (.iload_n 3, 1) := by decide +kernel
theorem dX9_lesson_6 : decode cX9_lesson 6 = .ok (.i2l, 1) := by decide +kernel
theorem dX9_lesson_7 : decode cX9_lesson 7 = .ok (.lconst 1, 1) := by decide +kernel
theorem dX9_lesson_8 : decode cX9_lesson 8 = .ok (.ldc2_w 144, 3) := by decide +kernel
theorem dX9_lesson_11 : decode cX9_lesson 11 = .ok (.invokestatic 133, 3) := by decide +kernel
theorem dX9_lesson_14 : decode cX9_lesson 14 = .ok (.ifCond .eq 16, 3) := by decide +kernel
theorem dX9_lesson_17 : decode cX9_lesson 17 = .ok (.iload 4, 2) := by decide +kernel
theorem dX9_lesson_19 : decode cX9_lesson 19 = .ok (.i2l, 1) := by decide +kernel
theorem dX9_lesson_20 : decode cX9_lesson 20 = .ok (.lconst 1, 1) := by decide +kernel
theorem dX9_lesson_21 : decode cX9_lesson 21 = .ok (.ldc2_w 169, 3) := by decide +kernel
theorem dX9_lesson_24 : decode cX9_lesson 24 = .ok (.invokestatic 133, 3) := by decide +kernel
theorem dX9_lesson_27 : decode cX9_lesson 27 = .ok (.ifCond .ne 9, 3) := by decide +kernel
theorem dX9_lesson_30 : decode cX9_lesson 30 = .ok (.aload_n 0, 1) := by decide +kernel
theorem dX9_lesson_31 : decode cX9_lesson 31 = .ok (.iconst (-1), 1) := by decide +kernel
theorem dX9_lesson_32 : decode cX9_lesson 32 = .ok (.invokevirtual 137, 3) := by decide +kernel
theorem dX9_lesson_35 : decode cX9_lesson 35 = .ok (.ireturn, 1) := by decide +kernel
theorem dX9_lesson_36 : decode cX9_lesson 36 = .ok (.aload_n 0, 1) := by decide +kernel
theorem dX9_lesson_37 : decode cX9_lesson 37 = .ok (.iload_n 1, 1) := by decide +kernel
theorem dX9_lesson_38 : decode cX9_lesson 38 = .ok (.invokevirtual 155, 3) := by decide +kernel
theorem dX9_lesson_41 : decode cX9_lesson 41 = .ok (.ifCond .eq 11, 3) := by decide +kernel
theorem dX9_lesson_44 : decode cX9_lesson 44 = .ok (.aload_n 0, 1) := by decide +kernel
theorem dX9_lesson_45 : decode cX9_lesson 45 = .ok (.iload_n 2, 1) := by decide +kernel
theorem dX9_lesson_46 : decode cX9_lesson 46 = .ok (.invokevirtual 163, 3) := by decide +kernel
theorem dX9_lesson_49 : decode cX9_lesson 49 = .ok (.ifCond .ne 10, 3) := by decide +kernel
theorem dX9_lesson_52 : decode cX9_lesson 52 = .ok (.aload_n 0, 1) := by decide +kernel
theorem dX9_lesson_53 : decode cX9_lesson 53 = .ok (.bipush (-2), 2) := by decide +kernel
theorem dX9_lesson_55 : decode cX9_lesson 55 = .ok (.invokevirtual 137, 3) := by decide +kernel
theorem dX9_lesson_58 : decode cX9_lesson 58 = .ok (.ireturn, 1) := by decide +kernel
theorem dX9_lesson_59 : decode cX9_lesson 59 = .ok (.aload_n 0, 1) := by decide +kernel
theorem dX9_lesson_60 : decode cX9_lesson 60 = .ok (.getfield 13, 3) := by decide +kernel
theorem dX9_lesson_63 : decode cX9_lesson 63 = .ok (.bipush 8, 2) := by decide +kernel
theorem dX9_lesson_65 : decode cX9_lesson 65 = .ok (.iaload, 1) := by decide +kernel
theorem dX9_lesson_66 : decode cX9_lesson 66 = .ok (.istore 5, 2) := by decide +kernel
theorem dX9_lesson_68 : decode cX9_lesson 68 = .ok (.iload 5, 2) := by decide +kernel
theorem dX9_lesson_70 : decode cX9_lesson 70 = .ok (.bipush 7, 2) := by decide +kernel
theorem dX9_lesson_72 : decode cX9_lesson 72 = .ok (.if_icmp .ne 10, 3) := by decide +kernel
theorem dX9_lesson_75 : decode cX9_lesson 75 = .ok (.aload_n 0, 1) := by decide +kernel
theorem dX9_lesson_76 : decode cX9_lesson 76 = .ok (.bipush (-5), 2) := by decide +kernel
theorem dX9_lesson_78 : decode cX9_lesson 78 = .ok (.invokevirtual 137, 3) := by decide +kernel
theorem dX9_lesson_81 : decode cX9_lesson 81 = .ok (.ireturn, 1) := by decide +kernel
theorem dX9_lesson_82 : decode cX9_lesson 82 = .ok (.aload_n 0, 1) := by decide +kernel
theorem dX9_lesson_83 : decode cX9_lesson 83 = .ok (.getfield 13, 3) := by decide +kernel
theorem dX9_lesson_86 : decode cX9_lesson 86 = .ok (.sipush 138, 3) := by decide +kernel
theorem dX9_lesson_89 : decode cX9_lesson 89 = .ok (.iconst 4, 1) := by decide +kernel
theorem dX9_lesson_90 : decode cX9_lesson 90 = .ok (.iload 5, 2) := by decide +kernel
theorem dX9_lesson_92 : decode cX9_lesson 92 = .ok (.imul, 1) := by decide +kernel
theorem dX9_lesson_93 : decode cX9_lesson 93 = .ok (.iadd, 1) := by decide +kernel
theorem dX9_lesson_94 : decode cX9_lesson 94 = .ok (.iload_n 1, 1) := by decide +kernel
theorem dX9_lesson_95 : decode cX9_lesson 95 = .ok (.iastore, 1) := by decide +kernel
theorem dX9_lesson_96 : decode cX9_lesson 96 = .ok (.aload_n 0, 1) := by decide +kernel
theorem dX9_lesson_97 : decode cX9_lesson 97 = .ok (.getfield 13, 3) := by decide +kernel
theorem dX9_lesson_100 : decode cX9_lesson 100 = .ok (.sipush 138, 3) := by decide +kernel
theorem dX9_lesson_103 : decode cX9_lesson 103 = .ok (.iconst 4, 1) := by decide +kernel
theorem dX9_lesson_104 : decode cX9_lesson 104 = .ok (.iload 5, 2) := by decide +kernel
theorem dX9_lesson_106 : decode cX9_lesson 106 = .ok (.imul, 1) := by decide +kernel
theorem dX9_lesson_107 : decode cX9_lesson 107 = .ok (.iadd, 1) := by decide +kernel
theorem dX9_lesson_108 : decode cX9_lesson 108 = .ok (.iconst 1, 1) := by decide +kernel
theorem dX9_lesson_109 : decode cX9_lesson 109 = .ok (.iadd, 1) := by decide +kernel
theorem dX9_lesson_110 : decode cX9_lesson 110 = .ok (.iload_n 2, 1) := by decide +kernel
theorem dX9_lesson_111 : decode cX9_lesson 111 = .ok (.iastore, 1) := by decide +kernel
theorem dX9_lesson_112 : decode cX9_lesson 112 = .ok (.aload_n 0, 1) := by decide +kernel
theorem dX9_lesson_113 : decode cX9_lesson 113 = .ok (.getfield 13, 3) := by decide +kernel
theorem dX9_lesson_116 : decode cX9_lesson 116 = .ok (.sipush 138, 3) := by decide +kernel
theorem dX9_lesson_119 : decode cX9_lesson 119 = .ok (.iconst 4, 1) := by decide +kernel
theorem dX9_lesson_120 : decode cX9_lesson 120 = .ok (.iload 5, 2) := by decide +kernel
theorem dX9_lesson_122 : decode cX9_lesson 122 = .ok (.imul, 1) := by decide +kernel
theorem dX9_lesson_123 : decode cX9_lesson 123 = .ok (.iadd, 1) := by decide +kernel
theorem dX9_lesson_124 : decode cX9_lesson 124 = .ok (.iconst 2, 1) := by decide +kernel
theorem dX9_lesson_125 : decode cX9_lesson 125 = .ok (.iadd, 1) := by decide +kernel
theorem dX9_lesson_126 : decode cX9_lesson 126 = .ok (.iload_n 3, 1) := by decide +kernel
theorem dX9_lesson_127 : decode cX9_lesson 127 = .ok (.iastore, 1) := by decide +kernel
theorem dX9_lesson_128 : decode cX9_lesson 128 = .ok (.aload_n 0, 1) := by decide +kernel
theorem dX9_lesson_129 : decode cX9_lesson 129 = .ok (.getfield 13, 3) := by decide +kernel
theorem dX9_lesson_132 : decode cX9_lesson 132 = .ok (.sipush 138, 3) := by decide +kernel
theorem dX9_lesson_135 : decode cX9_lesson 135 = .ok (.iconst 4, 1) := by decide +kernel
theorem dX9_lesson_136 : decode cX9_lesson 136 = .ok (.iload 5, 2) := by decide +kernel
theorem dX9_lesson_138 : decode cX9_lesson 138 = .ok (.imul, 1) := by decide +kernel
theorem dX9_lesson_139 : decode cX9_lesson 139 = .ok (.iadd, 1) := by decide +kernel
theorem dX9_lesson_140 : decode cX9_lesson 140 = .ok (.iconst 3, 1) := by decide +kernel
theorem dX9_lesson_141 : decode cX9_lesson 141 = .ok (.iadd, 1) := by decide +kernel
theorem dX9_lesson_142 : decode cX9_lesson 142 = .ok (.iload 4, 2) := by decide +kernel
theorem dX9_lesson_144 : decode cX9_lesson 144 = .ok (.iastore, 1) := by decide +kernel
theorem dX9_lesson_145 : decode cX9_lesson 145 = .ok (.aload_n 0, 1) := by decide +kernel
theorem dX9_lesson_146 : decode cX9_lesson 146 = .ok (.getfield 13, 3) := by decide +kernel
theorem dX9_lesson_149 : decode cX9_lesson 149 = .ok (.bipush 8, 2) := by decide +kernel
theorem dX9_lesson_151 : decode cX9_lesson 151 = .ok (.dup2, 1) := by decide +kernel
theorem dX9_lesson_152 : decode cX9_lesson 152 = .ok (.iaload, 1) := by decide +kernel
theorem dX9_lesson_153 : decode cX9_lesson 153 = .ok (.iconst 1, 1) := by decide +kernel
theorem dX9_lesson_154 : decode cX9_lesson 154 = .ok (.iadd, 1) := by decide +kernel
theorem dX9_lesson_155 : decode cX9_lesson 155 = .ok (.iastore, 1) := by decide +kernel
theorem dX9_lesson_156 : decode cX9_lesson 156 = .ok (.aload_n 0, 1) := by decide +kernel
theorem dX9_lesson_157 : decode cX9_lesson 157 = .ok (.iload 5, 2) := by decide +kernel
theorem dX9_lesson_159 : decode cX9_lesson 159 = .ok (.invokevirtual 137, 3) := by decide +kernel
theorem dX9_lesson_162 : decode cX9_lesson 162 = .ok (.ireturn, 1) := by decide +kernel
def bX9_lesson_0 (l : Launch) (E : Ev) (d : Nat) (Q : Option Value → Hp → Prop) : Kt := k_aload 0 (k_push (.int 0) (k_putI 9 55 0 (k_iload 3 (k_i2l (k_push (.long 1) (k_push (.long 9) (k_callS l E YX9_in d 0 0 3 (k_if_eq (Go l E YX9_lesson (d + 1) 0 0 Q 0 0 30) (k_iload 4 (k_i2l (k_push (.long 1) (k_push (.long 99) (k_callS l E YX9_in d 0 0 3 (k_if_ne (k_aload 0 (k_iload 1 (k_callV l E 9 55 YX9_isActor d 0 0 1 (k_if_eq (Go l E YX9_lesson (d + 1) 0 0 Q 0 0 52) (k_aload 0 (k_iload 2 (k_callV l E 9 55 YX9_isPart d 0 0 1 (k_if_ne (k_aload 0 (k_getR 9 55 3 (k_push (.int 8) (k_iaload (k_istore 5 (k_iload 5 (k_push (.int 7) (k_icmp_ne (k_aload 0 (k_getR 9 55 3 (k_push (.int 138) (k_push (.int 4) (k_iload 5 (k_imul (k_iadd (k_iload 1 (k_iastore (k_aload 0 (k_getR 9 55 3 (k_push (.int 138) (k_push (.int 4) (k_iload 5 (k_imul (k_iadd (k_push (.int 1) (k_iadd (k_iload 2 (k_iastore (k_aload 0 (k_getR 9 55 3 (k_push (.int 138) (k_push (.int 4) (k_iload 5 (k_imul (k_iadd (k_push (.int 2) (k_iadd (k_iload 3 (k_iastore (k_aload 0 (k_getR 9 55 3 (k_push (.int 138) (k_push (.int 4) (k_iload 5 (k_imul (k_iadd (k_push (.int 3) (k_iadd (k_iload 4 (k_iastore (k_aload 0 (k_getR 9 55 3 (k_push (.int 8) (k_dup2 (k_iaload (k_push (.int 1) (k_iadd (k_iastore (k_aload 0 (k_iload 5 (k_callV l E 9 55 YX9_tell d 0 0 1 (k_iret .int Q)))))))))))))))))))))))))))))))))))))))))))))))))))))) (k_aload 0 (k_push (.int (-5)) (k_callV l E 9 55 YX9_tell d 0 0 1 (k_iret .int Q)))))))))))) (Go l E YX9_lesson (d + 1) 0 0 Q 0 0 52))))))))) (Go l E YX9_lesson (d + 1) 0 0 Q 0 0 30)))))))))))))))
set_option maxRecDepth 100000 in
set_option maxHeartbeats 4000000 in
theorem gX9_lesson_0 {l : Launch} {E : Ev} {d : Nat} {Q : Option Value → Hp → Prop} {ls : Lv} {st : List Value} {h : Hp} (hB : bX9_lesson_0 l E d Q ls st h) : Go l E YX9_lesson (d + 1) 0 0 Q 0 0 0 ls st h :=
  (sd_aload_n (i := 0) rfl dX9_lesson_0 (sd_iconst (v := 0) (by decide) dX9_lesson_1 (sd_putI clsX9 (f := 0) (by decide) (fun _ _ _ => rfl) rfl (Or.inl rfl) mw_1178 dX9_lesson_2 (sd_iload_n (i := 3) rfl dX9_lesson_5 (sd_i2l dX9_lesson_6 (sd_lconst (v := 1) (by decide) dX9_lesson_7 (sd_ldc2 (v := 9) mw_1368 dX9_lesson_8 (sd_callS (Y' := YX9_in) (mc' := 0) (ms' := 0) (n := 3) mw_1348 mw_1349 mw_108 mw_1350 (okmX9_in) (by decide) (Nat.le_refl _) (by decide) (by decide) dX9_lesson_11 (sd_if_eq (tgt := 30) (by decide) dX9_lesson_14 (Sd.go) (sd_iload (n := 4) dX9_lesson_17 (sd_i2l dX9_lesson_19 (sd_lconst (v := 1) (by decide) dX9_lesson_20 (sd_ldc2 (v := 99) mw_1421 dX9_lesson_21 (sd_callS (Y' := YX9_in) (mc' := 0) (ms' := 0) (n := 3) mw_1348 mw_1349 mw_108 mw_1350 (okmX9_in) (by decide) (Nat.le_refl _) (by decide) (by decide) dX9_lesson_24 (sd_if_ne (tgt := 36) (by decide) dX9_lesson_27 (sd_aload_n (i := 0) rfl dX9_lesson_36 (sd_iload_n (i := 1) rfl dX9_lesson_37 (sd_callV (Y' := YX9_isActor) (mc' := 0) (ms' := 0) (n := 1) clsX9.1 mw_1381 mw_1383 mw_46 mw_108 mw_1384 rfl (okmX9_isActor) (by decide) (Nat.le_refl _) (by decide) (by decide) dX9_lesson_38 (sd_if_eq (tgt := 52) (by decide) dX9_lesson_41 (Sd.go) (sd_aload_n (i := 0) rfl dX9_lesson_44 (sd_iload_n (i := 2) rfl dX9_lesson_45 (sd_callV (Y' := YX9_isPart) (mc' := 0) (ms' := 0) (n := 1) clsX9.1 mw_1397 mw_1399 mw_49 mw_108 mw_1400 rfl (okmX9_isPart) (by decide) (Nat.le_refl _) (by decide) (by decide) dX9_lesson_46 (sd_if_ne (tgt := 59) (by decide) dX9_lesson_49 (sd_aload_n (i := 0) rfl dX9_lesson_59 (sd_getR clsX9 (f := 3) (by decide) (fun _ _ _ => rfl) mw_1181 dX9_lesson_60 (sd_bipush (v := 8) (by decide) dX9_lesson_63 (sd_iaload dX9_lesson_65 (sd_istore (i := 5) (by decide) dX9_lesson_66 (sd_iload (n := 5) dX9_lesson_68 (sd_bipush (v := 7) (by decide) dX9_lesson_70 (sd_icmp_ne (tgt := 82) (by decide) dX9_lesson_72 (sd_aload_n (i := 0) rfl dX9_lesson_82 (sd_getR clsX9 (f := 3) (by decide) (fun _ _ _ => rfl) mw_1181 dX9_lesson_83 (sd_sipush (v := 138) (by decide) dX9_lesson_86 (sd_iconst (v := 4) (by decide) dX9_lesson_89 (sd_iload (n := 5) dX9_lesson_90 (sd_imul dX9_lesson_92 (sd_iadd dX9_lesson_93 (sd_iload_n (i := 1) rfl dX9_lesson_94 (sd_iastore dX9_lesson_95 (sd_aload_n (i := 0) rfl dX9_lesson_96 (sd_getR clsX9 (f := 3) (by decide) (fun _ _ _ => rfl) mw_1181 dX9_lesson_97 (sd_sipush (v := 138) (by decide) dX9_lesson_100 (sd_iconst (v := 4) (by decide) dX9_lesson_103 (sd_iload (n := 5) dX9_lesson_104 (sd_imul dX9_lesson_106 (sd_iadd dX9_lesson_107 (sd_iconst (v := 1) (by decide) dX9_lesson_108 (sd_iadd dX9_lesson_109 (sd_iload_n (i := 2) rfl dX9_lesson_110 (sd_iastore dX9_lesson_111 (sd_aload_n (i := 0) rfl dX9_lesson_112 (sd_getR clsX9 (f := 3) (by decide) (fun _ _ _ => rfl) mw_1181 dX9_lesson_113 (sd_sipush (v := 138) (by decide) dX9_lesson_116 (sd_iconst (v := 4) (by decide) dX9_lesson_119 (sd_iload (n := 5) dX9_lesson_120 (sd_imul dX9_lesson_122 (sd_iadd dX9_lesson_123 (sd_iconst (v := 2) (by decide) dX9_lesson_124 (sd_iadd dX9_lesson_125 (sd_iload_n (i := 3) rfl dX9_lesson_126 (sd_iastore dX9_lesson_127 (sd_aload_n (i := 0) rfl dX9_lesson_128 (sd_getR clsX9 (f := 3) (by decide) (fun _ _ _ => rfl) mw_1181 dX9_lesson_129 (sd_sipush (v := 138) (by decide) dX9_lesson_132 (sd_iconst (v := 4) (by decide) dX9_lesson_135 (sd_iload (n := 5) dX9_lesson_136 (sd_imul dX9_lesson_138 (sd_iadd dX9_lesson_139 (sd_iconst (v := 3) (by decide) dX9_lesson_140 (sd_iadd dX9_lesson_141 (sd_iload (n := 4) dX9_lesson_142 (sd_iastore dX9_lesson_144 (sd_aload_n (i := 0) rfl dX9_lesson_145 (sd_getR clsX9 (f := 3) (by decide) (fun _ _ _ => rfl) mw_1181 dX9_lesson_146 (sd_bipush (v := 8) (by decide) dX9_lesson_149 (sd_dup2 dX9_lesson_151 (sd_iaload dX9_lesson_152 (sd_iconst (v := 1) (by decide) dX9_lesson_153 (sd_iadd dX9_lesson_154 (sd_iastore dX9_lesson_155 (sd_aload_n (i := 0) rfl dX9_lesson_156 (sd_iload (n := 5) dX9_lesson_157 (sd_callV (Y' := YX9_tell) (mc' := 0) (ms' := 0) (n := 1) clsX9.1 mw_1351 mw_1353 mw_45 mw_108 mw_1354 rfl (okmX9_tell) (by decide) (Nat.le_refl _) (by decide) (by decide) dX9_lesson_159 (sd_iret (ty := .int) rfl (by decide) (by decide) dX9_lesson_162)))))))))))))))))))))))))))))))))))))))))))))))))))))) (sd_aload_n (i := 0) rfl dX9_lesson_75 (sd_bipush (v := (-5)) (by decide) dX9_lesson_76 (sd_callV (Y' := YX9_tell) (mc' := 0) (ms' := 0) (n := 1) clsX9.1 mw_1351 mw_1353 mw_45 mw_108 mw_1354 rfl (okmX9_tell) (by decide) (Nat.le_refl _) (by decide) (by decide) dX9_lesson_78 (sd_iret (ty := .int) rfl (by decide) (by decide) dX9_lesson_81)))))))))))) (Sd.go))))))))) (Sd.go))))))))))))))) : Sd l E YX9_lesson (d + 1) 0 0 Q 0 0 0 (bX9_lesson_0 l E d Q)) ls st h hB
def bX9_lesson_30 (l : Launch) (E : Ev) (d : Nat) (Q : Option Value → Hp → Prop) : Kt := k_aload 0 (k_push (.int (-1)) (k_callV l E 9 55 YX9_tell d 0 0 1 (k_iret .int Q)))
set_option maxRecDepth 100000 in
set_option maxHeartbeats 4000000 in
theorem gX9_lesson_30 {l : Launch} {E : Ev} {d : Nat} {Q : Option Value → Hp → Prop} {ls : Lv} {st : List Value} {h : Hp} (hB : bX9_lesson_30 l E d Q ls st h) : Go l E YX9_lesson (d + 1) 0 0 Q 0 0 30 ls st h :=
  (sd_aload_n (i := 0) rfl dX9_lesson_30 (sd_iconst (v := (-1)) (by decide) dX9_lesson_31 (sd_callV (Y' := YX9_tell) (mc' := 0) (ms' := 0) (n := 1) clsX9.1 mw_1351 mw_1353 mw_45 mw_108 mw_1354 rfl (okmX9_tell) (by decide) (Nat.le_refl _) (by decide) (by decide) dX9_lesson_32 (sd_iret (ty := .int) rfl (by decide) (by decide) dX9_lesson_35))) : Sd l E YX9_lesson (d + 1) 0 0 Q 0 0 30 (bX9_lesson_30 l E d Q)) ls st h hB
def bX9_lesson_52 (l : Launch) (E : Ev) (d : Nat) (Q : Option Value → Hp → Prop) : Kt := k_aload 0 (k_push (.int (-2)) (k_callV l E 9 55 YX9_tell d 0 0 1 (k_iret .int Q)))
set_option maxRecDepth 100000 in
set_option maxHeartbeats 4000000 in
theorem gX9_lesson_52 {l : Launch} {E : Ev} {d : Nat} {Q : Option Value → Hp → Prop} {ls : Lv} {st : List Value} {h : Hp} (hB : bX9_lesson_52 l E d Q ls st h) : Go l E YX9_lesson (d + 1) 0 0 Q 0 0 52 ls st h :=
  (sd_aload_n (i := 0) rfl dX9_lesson_52 (sd_bipush (v := (-2)) (by decide) dX9_lesson_53 (sd_callV (Y' := YX9_tell) (mc' := 0) (ms' := 0) (n := 1) clsX9.1 mw_1351 mw_1353 mw_45 mw_108 mw_1354 rfl (okmX9_tell) (by decide) (Nat.le_refl _) (by decide) (by decide) dX9_lesson_55 (sd_iret (ty := .int) rfl (by decide) (by decide) dX9_lesson_58))) : Sd l E YX9_lesson (d + 1) 0 0 Q 0 0 52 (bX9_lesson_52 l E d Q)) ls st h hB
theorem eX9_lesson {l : Launch} {E : Ev} {d : Nat} {Q : Option Value → Hp → Prop} {h : Hp} {a0 : Nat} {x1 : Int32} {x2 : Int32} {x3 : Int32} {x4 : Int32} (hk : Go l E YX9_lesson d 0 0 Q 0 0 0 [some (.ref a0), some (.int x1), some (.int x2), some (.int x3), some (.int x4), none] [] h) : GoM l E YX9_lesson d 0 0 [.ref a0, .int x1, .int x2, .int x3, .int x4] h Q := GoM.of (by decide +kernel) rfl (by simp [entA, YX9_lesson]) hk
theorem dX9_out_0 : decode cX9_out 0 = .ok (.sipush 138, 3) := by decide +kernel
theorem dX9_out_3 : decode cX9_out 3 = .ok (.iconst 4, 1) := by decide +kernel
theorem dX9_out_4 : decode cX9_out 4 = .ok (.iload_n 1, 1) := by decide +kernel
theorem dX9_out_5 : decode cX9_out 5 = .ok (.imul, 1) := by decide +kernel
theorem dX9_out_6 : decode cX9_out 6 = .ok (.iadd, 1) := by decide +kernel
theorem dX9_out_7 : decode cX9_out 7 = .ok (.istore_n 2, 1) := by decide +kernel
theorem dX9_out_8 : decode cX9_out 8 = .ok (.iload_n 2, 1) := by decide +kernel
theorem dX9_out_9 : decode cX9_out 9 = .ok (.sipush 162, 3) := by decide +kernel
theorem dX9_out_12 : decode cX9_out 12 = .ok (.if_icmp .ge 23, 3) := by decide +kernel
theorem dX9_out_15 : decode cX9_out 15 = .ok (.aload_n 0, 1) := by decide +kernel
theorem dX9_out_16 : decode cX9_out 16 = .ok (.getfield 13, 3) := by decide +kernel
theorem dX9_out_19 : decode cX9_out 19 = .ok (.iload_n 2, 1) := by decide +kernel
theorem dX9_out_20 : decode cX9_out 20 = .ok (.aload_n 0, 1) := by decide +kernel
theorem dX9_out_21 : decode cX9_out 21 = .ok (.getfield 13, 3) := by decide +kernel
theorem dX9_out_24 : decode cX9_out 24 = .ok (.iload_n 2, 1) := by decide +kernel
theorem dX9_out_25 : decode cX9_out 25 = .ok (.iconst 4, 1) := by decide +kernel
theorem dX9_out_26 : decode cX9_out 26 = .ok (.iadd, 1) := by decide +kernel
theorem dX9_out_27 : decode cX9_out 27 = .ok (.iaload, 1) := by decide +kernel
theorem dX9_out_28 : decode cX9_out 28 = .ok (.iastore, 1) := by decide +kernel
theorem dX9_out_29 : decode cX9_out 29 = .ok (.iinc 2 1, 3) := by decide +kernel
theorem dX9_out_32 : decode cX9_out 32 = .ok (.goto (-24), 3) := by decide +kernel
theorem dX9_out_35 : decode cX9_out 35 = .ok (.aload_n 0, 1) := by decide +kernel
theorem dX9_out_36 : decode cX9_out 36 = .ok (.getfield 13, 3) := by decide +kernel
theorem dX9_out_39 : decode cX9_out 39 = .ok (.bipush 8, 2) := by decide +kernel
theorem dX9_out_41 : decode cX9_out 41 = .ok (.dup2, 1) := by decide +kernel
theorem dX9_out_42 : decode cX9_out 42 = .ok (.iaload, 1) := by decide +kernel
theorem dX9_out_43 : decode cX9_out 43 = .ok (.iconst 1, 1) := by decide +kernel
theorem dX9_out_44 : decode cX9_out 44 = .ok (.isub, 1) := by decide +kernel
theorem dX9_out_45 : decode cX9_out 45 = .ok (.iastore, 1) := by decide +kernel
theorem dX9_out_46 : decode cX9_out 46 = .ok (.return_, 1) := by decide +kernel
def bX9_out_0 (l : Launch) (E : Ev) (d : Nat) (Q : Option Value → Hp → Prop) : Kt := k_push (.int 138) (k_push (.int 4) (k_iload 1 (k_imul (k_iadd (k_istore 2 (Go l E YX9_out (d + 1) 0 0 Q 0 0 8))))))
set_option maxRecDepth 100000 in
set_option maxHeartbeats 4000000 in
theorem gX9_out_0 {l : Launch} {E : Ev} {d : Nat} {Q : Option Value → Hp → Prop} {ls : Lv} {st : List Value} {h : Hp} (hB : bX9_out_0 l E d Q ls st h) : Go l E YX9_out (d + 1) 0 0 Q 0 0 0 ls st h :=
  (sd_sipush (v := 138) (by decide) dX9_out_0 (sd_iconst (v := 4) (by decide) dX9_out_3 (sd_iload_n (i := 1) rfl dX9_out_4 (sd_imul dX9_out_5 (sd_iadd dX9_out_6 (sd_istore_n (i := 2) rfl (by decide) dX9_out_7 (Sd.go)))))) : Sd l E YX9_out (d + 1) 0 0 Q 0 0 0 (bX9_out_0 l E d Q)) ls st h hB
def bX9_out_8 (l : Launch) (E : Ev) (d : Nat) (Q : Option Value → Hp → Prop) : Kt := k_iload 2 (k_push (.int 162) (k_icmp_ge (k_aload 0 (k_getR 9 55 3 (k_push (.int 8) (k_dup2 (k_iaload (k_push (.int 1) (k_isub (k_iastore (k_vret Q))))))))) (k_aload 0 (k_getR 9 55 3 (k_iload 2 (k_aload 0 (k_getR 9 55 3 (k_iload 2 (k_push (.int 4) (k_iadd (k_iaload (k_iastore (k_iinc 2 1 (Go l E YX9_out (d + 1) 0 0 Q 0 0 8))))))))))))))
set_option maxRecDepth 100000 in
set_option maxHeartbeats 4000000 in
theorem gX9_out_8 {l : Launch} {E : Ev} {d : Nat} {Q : Option Value → Hp → Prop} {ls : Lv} {st : List Value} {h : Hp} (hB : bX9_out_8 l E d Q ls st h) : Go l E YX9_out (d + 1) 0 0 Q 0 0 8 ls st h :=
  (sd_iload_n (i := 2) rfl dX9_out_8 (sd_sipush (v := 162) (by decide) dX9_out_9 (sd_icmp_ge (tgt := 35) (by decide) dX9_out_12 (sd_aload_n (i := 0) rfl dX9_out_35 (sd_getR clsX9 (f := 3) (by decide) (fun _ _ _ => rfl) mw_1181 dX9_out_36 (sd_bipush (v := 8) (by decide) dX9_out_39 (sd_dup2 dX9_out_41 (sd_iaload dX9_out_42 (sd_iconst (v := 1) (by decide) dX9_out_43 (sd_isub dX9_out_44 (sd_iastore dX9_out_45 (sd_vret rfl (by decide) (by decide) dX9_out_46))))))))) (sd_aload_n (i := 0) rfl dX9_out_15 (sd_getR clsX9 (f := 3) (by decide) (fun _ _ _ => rfl) mw_1181 dX9_out_16 (sd_iload_n (i := 2) rfl dX9_out_19 (sd_aload_n (i := 0) rfl dX9_out_20 (sd_getR clsX9 (f := 3) (by decide) (fun _ _ _ => rfl) mw_1181 dX9_out_21 (sd_iload_n (i := 2) rfl dX9_out_24 (sd_iconst (v := 4) (by decide) dX9_out_25 (sd_iadd dX9_out_26 (sd_iaload dX9_out_27 (sd_iastore dX9_out_28 (sd_iinc (i := 2) (v := 1) (by decide) (by decide) dX9_out_29 (sd_goto (tgt := 8) (by decide) dX9_out_32 (Sd.go))))))))))))))) : Sd l E YX9_out (d + 1) 0 0 Q 0 0 8 (bX9_out_8 l E d Q)) ls st h hB
theorem eX9_out {l : Launch} {E : Ev} {d : Nat} {Q : Option Value → Hp → Prop} {h : Hp} {a0 : Nat} {x1 : Int32} (hk : Go l E YX9_out d 0 0 Q 0 0 0 [some (.ref a0), some (.int x1), none] [] h) : GoM l E YX9_out d 0 0 [.ref a0, .int x1] h Q := GoM.of (by decide +kernel) rfl (by simp [entA, YX9_out]) hk
theorem dX9_drop_0 : decode cX9_drop 0 = .ok (.aload_n 0, 1) := by decide +kernel
theorem dX9_drop_1 : decode cX9_drop 1 = .ok (.iconst 0, 1) := by decide +kernel
theorem dX9_drop_2 : decode cX9_drop 2 = .ok (.putfield 123, 3) := by decide +kernel
theorem dX9_drop_5 : decode cX9_drop 5 = .ok (.aload_n 0, 1) := by decide +kernel
theorem dX9_drop_6 : decode cX9_drop 6 = .ok (.iload_n 1, 1) := by decide +kernel
theorem dX9_drop_7 : decode cX9_drop 7 = .ok (.invokevirtual 434, 3) := by decide +kernel
theorem dX9_drop_10 : decode cX9_drop 10 = .ok (.ifCond .ne 10, 3) := by decide +kernel
theorem dX9_drop_13 : decode cX9_drop 13 = .ok (.aload_n 0, 1) := by decide +kernel
theorem dX9_drop_14 : decode cX9_drop 14 = .ok (.bipush (-2), 2) := by decide +kernel
theorem dX9_drop_16 : decode cX9_drop 16 = .ok (.invokevirtual 137, 3) := by decide +kernel
theorem dX9_drop_19 : decode cX9_drop 19 = .ok (.ireturn, 1) := by decide +kernel
theorem dX9_drop_20 : decode cX9_drop 20 = .ok (.aload_n 0, 1) := by decide +kernel
theorem dX9_drop_21 : decode cX9_drop 21 = .ok (.iload_n 1, 1) := by decide +kernel
theorem dX9_drop_22 : decode cX9_drop 22 = .ok (.invokevirtual 437, 3) := by decide +kernel
theorem dX9_drop_25 : decode cX9_drop 25 = .ok (.aload_n 0, 1) := by decide +kernel
theorem dX9_drop_26 : decode cX9_drop 26 = .ok (.aload_n 0, 1) := by decide +kernel
theorem dX9_drop_27 : decode cX9_drop 27 = .ok (.getfield 13, 3) := by decide +kernel
theorem dX9_drop_30 : decode cX9_drop 30 = .ok (.bipush 8, 2) := by decide +kernel
theorem dX9_drop_32 : decode cX9_drop 32 = .ok (.iaload, 1) := by decide +kernel
theorem dX9_drop_33 : decode cX9_drop 33 = .ok (.invokevirtual 137, 3) := by decide +kernel
theorem dX9_drop_36 : decode cX9_drop 36 = .ok (.ireturn, 1) := by decide +kernel
def bX9_drop_0 (l : Launch) (E : Ev) (d : Nat) (Q : Option Value → Hp → Prop) : Kt := k_aload 0 (k_push (.int 0) (k_putI 9 55 0 (k_aload 0 (k_iload 1 (k_callV l E 9 55 YX9_isLesson d 0 0 1 (k_if_ne (k_aload 0 (k_iload 1 (k_callV l E 9 55 YX9_out d 0 0 1 (k_aload 0 (k_aload 0 (k_getR 9 55 3 (k_push (.int 8) (k_iaload (k_callV l E 9 55 YX9_tell d 0 0 1 (k_iret .int Q)))))))))) (k_aload 0 (k_push (.int (-2)) (k_callV l E 9 55 YX9_tell d 0 0 1 (k_iret .int Q))))))))))
set_option maxRecDepth 100000 in
set_option maxHeartbeats 4000000 in
theorem gX9_drop_0 {l : Launch} {E : Ev} {d : Nat} {Q : Option Value → Hp → Prop} {ls : Lv} {st : List Value} {h : Hp} (hB : bX9_drop_0 l E d Q ls st h) : Go l E YX9_drop (d + 1) 0 0 Q 0 0 0 ls st h :=
  (sd_aload_n (i := 0) rfl dX9_drop_0 (sd_iconst (v := 0) (by decide) dX9_drop_1 (sd_putI clsX9 (f := 0) (by decide) (fun _ _ _ => rfl) rfl (Or.inl rfl) mw_1178 dX9_drop_2 (sd_aload_n (i := 0) rfl dX9_drop_5 (sd_iload_n (i := 1) rfl dX9_drop_6 (sd_callV (Y' := YX9_isLesson) (mc' := 0) (ms' := 0) (n := 1) clsX9.1 mw_1738 mw_1740 mw_94 mw_108 mw_1741 rfl (okmX9_isLesson) (by decide) (Nat.le_refl _) (by decide) (by decide) dX9_drop_7 (sd_if_ne (tgt := 20) (by decide) dX9_drop_10 (sd_aload_n (i := 0) rfl dX9_drop_20 (sd_iload_n (i := 1) rfl dX9_drop_21 (sd_callV (Y' := YX9_out) (mc' := 0) (ms' := 0) (n := 1) clsX9.1 mw_1742 mw_1744 mw_95 mw_108 mw_1745 rfl (okmX9_out) (by decide) (Nat.le_refl _) (by decide) (by decide) dX9_drop_22 (sd_aload_n (i := 0) rfl dX9_drop_25 (sd_aload_n (i := 0) rfl dX9_drop_26 (sd_getR clsX9 (f := 3) (by decide) (fun _ _ _ => rfl) mw_1181 dX9_drop_27 (sd_bipush (v := 8) (by decide) dX9_drop_30 (sd_iaload dX9_drop_32 (sd_callV (Y' := YX9_tell) (mc' := 0) (ms' := 0) (n := 1) clsX9.1 mw_1351 mw_1353 mw_45 mw_108 mw_1354 rfl (okmX9_tell) (by decide) (Nat.le_refl _) (by decide) (by decide) dX9_drop_33 (sd_iret (ty := .int) rfl (by decide) (by decide) dX9_drop_36)))))))))) (sd_aload_n (i := 0) rfl dX9_drop_13 (sd_bipush (v := (-2)) (by decide) dX9_drop_14 (sd_callV (Y' := YX9_tell) (mc' := 0) (ms' := 0) (n := 1) clsX9.1 mw_1351 mw_1353 mw_45 mw_108 mw_1354 rfl (okmX9_tell) (by decide) (Nat.le_refl _) (by decide) (by decide) dX9_drop_16 (sd_iret (ty := .int) rfl (by decide) (by decide) dX9_drop_19)))))))))) : Sd l E YX9_drop (d + 1) 0 0 Q 0 0 0 (bX9_drop_0 l E d Q)) ls st h hB
theorem eX9_drop {l : Launch} {E : Ev} {d : Nat} {Q : Option Value → Hp → Prop} {h : Hp} {a0 : Nat} {x1 : Int32} (hk : Go l E YX9_drop d 0 0 Q 0 0 0 [some (.ref a0), some (.int x1)] [] h) : GoM l E YX9_drop d 0 0 [.ref a0, .int x1] h Q := GoM.of (by decide +kernel) rfl (by simp [entA, YX9_drop]) hk
theorem dX9_findLessons_0 : decode cX9_findLessons 0 = .ok (.aload_n 0, 1) := by decide +kernel
theorem dX9_findLessons_1 : decode cX9_findLessons 1 = .ok (.ldc_w 362, 3) := by decide +kernel
theorem dX9_findLessons_4 : decode cX9_findLessons 4 = .ok (.putfield 440, 3) := by decide +kernel
theorem dX9_findLessons_7 : decode cX9_findLessons 7 = .ok (.aload_n 0, 1) := by decide +kernel
theorem dX9_findLessons_8 : decode cX9_findLessons 8 = .ok (.iconst (-1), 1) := by decide +kernel
theorem dX9_findLessons_9 : decode cX9_findLessons 9 = .ok (.putfield 443, 3) := by decide +kernel
theorem dX9_findLessons_12 : decode cX9_findLessons 12 = .ok (.aload_n 0, 1) := by decide +kernel
theorem dX9_findLessons_13 : decode cX9_findLessons 13 = .ok (.iconst 0, 1) := by decide +kernel
theorem dX9_findLessons_14 : decode cX9_findLessons 14 = .ok (.putfield 446, 3) := by decide +kernel
theorem dX9_findLessons_17 : decode cX9_findLessons 17 = .ok (.iconst 0, 1) := by decide +kernel
theorem dX9_findLessons_18 : decode cX9_findLessons 18 = .ok (.istore_n 3, 1) := by decide +kernel
theorem dX9_findLessons_19 : decode cX9_findLessons 19 = .ok (.iload_n 3, 1) := by decide +kernel
theorem dX9_findLessons_20 : decode cX9_findLessons 20 = .ok (.iconst 1, 1) := by decide +kernel
theorem dX9_findLessons_21 : decode cX9_findLessons 21 = .ok (.aload_n 0, 1) := by decide +kernel
theorem dX9_findLessons_22 : decode cX9_findLessons 22 = .ok (.getfield 13, 3) := by decide +kernel
theorem dX9_findLessons_25 : decode cX9_findLessons 25 = .ok (.bipush 8, 2) := by decide +kernel
theorem dX9_findLessons_27 : decode cX9_findLessons 27 = .ok (.iaload, 1) := by decide +kernel
theorem dX9_findLessons_28 : decode cX9_findLessons 28 = .ok (.ishl, 1) := by decide +kernel
theorem dX9_findLessons_29 : decode cX9_findLessons 29 = .ok (.if_icmp .ge 202, 3) := by decide +kernel
theorem dX9_findLessons_32 : decode cX9_findLessons 32 = .ok (.iload_n 2, 1) := by decide +kernel
theorem dX9_findLessons_33 : decode cX9_findLessons 33 = .ok (.iconst (-1), 1) := by decide +kernel
theorem dX9_findLessons_34 : decode cX9_findLessons 34 = .ok (.if_icmp .eq 11, 3) := by decide +kernel
theorem dX9_findLessons_37 : decode cX9_findLessons 37 = .ok (.iload_n 3, 1) := by decide +kernel
theorem dX9_findLessons_38 : decode cX9_findLessons 38 = .ok (.iload_n 2, 1) := by decide +kernel
theorem dX9_findLessons_39 : decode cX9_findLessons 39 = .ok (.invokestatic 363, 3) := by decide +kernel
theorem dX9_findLessons_42 : decode cX9_findLessons 42 = .ok (.ifCond .ne 183, 3) := by decide +kernel
theorem dX9_findLessons_45 : decode cX9_findLessons 45 = .ok (.aload_n 0, 1) := by decide +kernel
theorem dX9_findLessons_46 : decode cX9_findLessons 46 = .ok (.invokevirtual 351, 3) := by decide +kernel
theorem dX9_findLessons_49 : decode cX9_findLessons 49 = .ok (.iconst 0, 1) := by decide +kernel
theorem dX9_findLessons_50 : decode cX9_findLessons 50 = .ok (.istore 4, 2) := by decide +kernel
theorem dX9_findLessons_52 : decode cX9_findLessons 52 = .ok (.iconst 0, 1) := by decide +kernel
theorem dX9_findLessons_53 : decode cX9_findLessons 53 = .ok (.istore 5, 2) := by decide +kernel
theorem dX9_findLessons_55 : decode cX9_findLessons 55 = .ok (.iload 5, 2) := by decide +kernel
theorem dX9_findLessons_57 : decode cX9_findLessons 57 = .ok (.aload_n 0, 1) := by decide +kernel
theorem dX9_findLessons_58 : decode cX9_findLessons 58 = .ok (.getfield 13, 3) := by decide +kernel
theorem dX9_findLessons_61 : decode cX9_findLessons 61 = .ok (.bipush 8, 2) := by decide +kernel
theorem dX9_findLessons_63 : decode cX9_findLessons 63 = .ok (.iaload, 1) := by decide +kernel
theorem dX9_findLessons_64 : decode cX9_findLessons 64 = .ok (.if_icmp .ge 91, 3) := by decide +kernel
theorem dX9_findLessons_67 : decode cX9_findLessons 67 = .ok (.iload_n 3, 1) := by decide +kernel
theorem dX9_findLessons_68 : decode cX9_findLessons 68 = .ok (.iload 5, 2) := by decide +kernel
theorem dX9_findLessons_70 : decode cX9_findLessons 70 = .ok (.invokestatic 363, 3) := by decide +kernel
theorem dX9_findLessons_73 : decode cX9_findLessons 73 = .ok (.ifCond .eq 76, 3) := by decide +kernel
theorem dX9_findLessons_76 : decode cX9_findLessons 76 = .ok (.bipush 8, 2) := by decide +kernel
theorem dX9_findLessons_78 : decode cX9_findLessons 78 = .ok (.aload_n 0, 1) := by decide +kernel
theorem dX9_findLessons_79 : decode cX9_findLessons 79 = .ok (.iload 5, 2) := by decide +kernel
theorem dX9_findLessons_81 : decode cX9_findLessons 81 = .ok (.iconst 0, 1) := by decide +kernel
theorem dX9_findLessons_82 : decode cX9_findLessons 82 = .ok (.invokevirtual 449, 3) := by decide +kernel
theorem dX9_findLessons_85 : decode cX9_findLessons 85 = .ok (.imul, 1) := by decide +kernel
theorem dX9_findLessons_86 : decode cX9_findLessons 86 = .ok (.aload_n 0, 1) := by decide +kernel
theorem dX9_findLessons_87 : decode cX9_findLessons 87 = .ok (.iload 5, 2) := by decide +kernel
theorem dX9_findLessons_89 : decode cX9_findLessons 89 = .ok (.iconst 1, 1) := by decide +kernel
theorem dX9_findLessons_90 : decode cX9_findLessons 90 = .ok (.invokevirtual 449, 3) := by decide +kernel
theorem dX9_findLessons_93 : decode cX9_findLessons 93 = .ok (.iadd, 1) := by decide +kernel
theorem dX9_findLessons_94 : decode cX9_findLessons 94 = .ok (.istore 6, 2) := by decide +kernel
theorem dX9_findLessons_96 : decode cX9_findLessons 96 = .ok (.aload_n 0, 1) := by decide +kernel
theorem dX9_findLessons_97 : decode cX9_findLessons 97 = .ok (.getfield 86, 3) := by decide +kernel
theorem dX9_findLessons_100 : decode cX9_findLessons 100 = .ok (.iload 6, 2) := by decide +kernel
theorem dX9_findLessons_102 : decode cX9_findLessons 102 = .ok (.aload_n 0, 1) := by decide +kernel
theorem dX9_findLessons_103 : decode cX9_findLessons 103 = .ok (.getfield 86, 3) := by decide +kernel
theorem dX9_findLessons_106 : decode cX9_findLessons 106 = .ok (.iload 6, 2) := by decide +kernel
theorem dX9_findLessons_108 : decode cX9_findLessons 108 = .ok (.iaload, 1) := by decide +kernel
theorem dX9_findLessons_109 : decode cX9_findLessons 109 = .ok (.aload_n 0, 1) := by decide +kernel
theorem dX9_findLessons_110 : decode cX9_findLessons 110 = .ok (.iload 5, 2) := by decide +kernel
theorem dX9_findLessons_112 : decode cX9_findLessons 112 = .ok (.iconst 2, 1) := by decide +kernel
theorem dX9_findLessons_113 : decode cX9_findLessons 113 = .ok (.invokevirtual 449, 3) := by decide +kernel
theorem dX9_findLessons_116 : decode cX9_findLessons 116 = .ok (.if_icmp .ge 13, 3) := by decide +kernel
theorem dX9_findLessons_119 : decode cX9_findLessons 119 = .ok (.aload_n 0, 1) := by decide +kernel
theorem dX9_findLessons_120 : decode cX9_findLessons 120 = .ok (.iload 5, 2) := by decide +kernel
theorem dX9_findLessons_122 : decode cX9_findLessons 122 = .ok (.iconst 2, 1) := by decide +kernel
theorem dX9_findLessons_123 : decode cX9_findLessons 123 = .ok (.invokevirtual 449, 3) := by decide +kernel
theorem dX9_findLessons_126 : decode cX9_findLessons 126 = .ok (.goto 10, 3) := by decide +kernel
theorem dX9_findLessons_129 : decode cX9_findLessons 129 = .ok (.aload_n 0, 1) := by decide +kernel
theorem dX9_findLessons_130 : decode cX9_findLessons 130 = .ok (.getfield 86, 3) := by decide +kernel
theorem dX9_findLessons_133 : decode cX9_findLessons 133 = .ok (.iload 6, 2) := by decide +kernel
theorem dX9_findLessons_135 : decode cX9_findLessons 135 = .ok (.iaload, 1) := by decide +kernel
theorem dX9_findLessons_136 : decode cX9_findLessons 136 = .ok (.iastore, 1) := by decide +kernel
theorem dX9_findLessons_137 : decode cX9_findLessons 137 = .ok (.iload 4, 2) := by decide +kernel
theorem dX9_findLessons_139 : decode cX9_findLessons 139 = .ok (.aload_n 0, 1) := by decide +kernel
theorem dX9_findLessons_140 : decode cX9_findLessons 140 = .ok (.iload 5, 2) := by decide +kernel
theorem dX9_findLessons_142 : decode cX9_findLessons 142 = .ok (.iconst 3, 1) := by decide +kernel
theorem dX9_findLessons_143 : decode cX9_findLessons 143 = .ok (.invokevirtual 449, 3) := by decide +kernel
theorem dX9_findLessons_146 : decode cX9_findLessons 146 = .ok (.iadd, 1) := by decide +kernel
theorem dX9_findLessons_147 : decode cX9_findLessons 147 = .ok (.istore 4, 2) := by decide +kernel
theorem dX9_findLessons_149 : decode cX9_findLessons 149 = .ok (.iinc 5 1, 3) := by decide +kernel
theorem dX9_findLessons_152 : decode cX9_findLessons 152 = .ok (.goto (-97), 3) := by decide +kernel
theorem dX9_findLessons_155 : decode cX9_findLessons 155 = .ok (.aload_n 0, 1) := by decide +kernel
theorem dX9_findLessons_156 : decode cX9_findLessons 156 = .ok (.invokevirtual 354, 3) := by decide +kernel
theorem dX9_findLessons_159 : decode cX9_findLessons 159 = .ok (.aload_n 0, 1) := by decide +kernel
theorem dX9_findLessons_160 : decode cX9_findLessons 160 = .ok (.invokevirtual 414, 3) := by decide +kernel
theorem dX9_findLessons_163 : decode cX9_findLessons 163 = .ok (.aload_n 0, 1) := by decide +kernel
theorem dX9_findLessons_164 : decode cX9_findLessons 164 = .ok (.iload_n 1, 1) := by decide +kernel
theorem dX9_findLessons_165 : decode cX9_findLessons 165 = .ok (.invokevirtual 431, 3) := by decide +kernel
theorem dX9_findLessons_168 : decode cX9_findLessons 168 = .ok (.iconst (-1), 1) := by decide +kernel
theorem dX9_findLessons_169 : decode cX9_findLessons 169 = .ok (.if_icmp .ne 56, 3) := by decide +kernel
theorem dX9_findLessons_172 : decode cX9_findLessons 172 = .ok (.aload_n 0, 1) := by decide +kernel
theorem dX9_findLessons_173 : decode cX9_findLessons 173 = .ok (.dup, 1) := by decide +kernel
theorem dX9_findLessons_174 : decode cX9_findLessons 174 = .ok (.getfield 446, 3) := by decide +kernel
theorem dX9_findLessons_177 : decode cX9_findLessons 177 = .ok (.iconst 1, 1) := by decide +kernel
theorem dX9_findLessons_178 : decode cX9_findLessons 178 = .ok (.iadd, 1) := by decide +kernel
theorem dX9_findLessons_179 : decode cX9_findLessons 179 = .ok (.putfield 446, 3) := by decide +kernel
theorem dX9_findLessons_182 : decode cX9_findLessons 182 = .ok (.aload_n 0, 1) := by decide +kernel
theorem dX9_findLessons_183 : decode cX9_findLessons 183 = .ok (.iload 4, 2) := by decide +kernel
theorem dX9_findLessons_185 : decode cX9_findLessons 185 = .ok (.aload_n 0, 1) := by decide +kernel
theorem dX9_findLessons_186 : decode cX9_findLessons 186 = .ok (.getfield 440, 3) := by decide +kernel
theorem dX9_findLessons_189 : decode cX9_findLessons 189 = .ok (.if_icmp .ge 7, 3) := by decide +kernel
theorem dX9_findLessons_192 : decode cX9_findLessons 192 = .ok (.iload_n 3, 1) := by decide +kernel
theorem dX9_findLessons_193 : decode cX9_findLessons 193 = .ok (.goto 7, 3) := by decide +kernel
theorem dX9_findLessons_196 : decode cX9_findLessons 196 = .ok (.aload_n 0, 1) := by decide +kernel
theorem dX9_findLessons_197 : decode cX9_findLessons 197 = .ok (.getfield 443, 3) := by decide +kernel
theorem dX9_findLessons_200 : decode cX9_findLessons 200 = .ok (.putfield 443, 3) := by decide +kernel
theorem dX9_findLessons_203 : decode cX9_findLessons 203 = .ok (.aload_n 0, 1) := by decide +kernel
theorem dX9_findLessons_204 : decode cX9_findLessons 204 = .ok (.iload 4, 2) := by decide +kernel
theorem dX9_findLessons_206 : decode cX9_findLessons 206 = .ok (.aload_n 0, 1) := by decide +kernel
theorem dX9_findLessons_207 : decode cX9_findLessons 207 = .ok (.getfield 440, 3) := by decide +kernel
theorem dX9_findLessons_210 : decode cX9_findLessons 210 = .ok (.if_icmp .ge 8, 3) := by decide +kernel
theorem dX9_findLessons_213 : decode cX9_findLessons 213 = .ok (.iload 4, 2) := by decide +kernel
theorem dX9_findLessons_215 : decode cX9_findLessons 215 = .ok (.goto 7, 3) := by decide +kernel
theorem dX9_findLessons_218 : decode cX9_findLessons 218 = .ok (.aload_n 0, 1) := by decide +kernel
theorem dX9_findLessons_219 : decode cX9_findLessons 219 = .ok (.getfield 440, 3) := by decide +kernel
theorem dX9_findLessons_222 : decode cX9_findLessons 222 = .ok (.putfield 440, 3) := by decide +kernel
theorem dX9_findLessons_225 : decode cX9_findLessons 225 = .ok (.iinc 3 1, 3) := by decide +kernel
theorem dX9_findLessons_228 : decode cX9_findLessons 228 = .ok (.goto (-209), 3) := by decide +kernel
theorem dX9_findLessons_231 : decode cX9_findLessons 231 = .ok (.return_, 1) := by decide +kernel
def bX9_findLessons_0 (l : Launch) (E : Ev) (d : Nat) (Q : Option Value → Hp → Prop) : Kt := k_aload 0 (k_push (.int 1000000) (k_putI 9 55 46 (k_aload 0 (k_push (.int (-1)) (k_putI 9 55 47 (k_aload 0 (k_push (.int 0) (k_putI 9 55 48 (k_push (.int 0) (k_istore 3 (Go l E YX9_findLessons (d + 1) 0 0 Q 0 0 19)))))))))))
set_option maxRecDepth 100000 in
set_option maxHeartbeats 4000000 in
theorem gX9_findLessons_0 {l : Launch} {E : Ev} {d : Nat} {Q : Option Value → Hp → Prop} {ls : Lv} {st : List Value} {h : Hp} (hB : bX9_findLessons_0 l E d Q ls st h) : Go l E YX9_findLessons (d + 1) 0 0 Q 0 0 0 ls st h :=
  (sd_aload_n (i := 0) rfl dX9_findLessons_0 (sd_ldcw (v := 1000000) mw_1602 dX9_findLessons_1 (sd_putI clsX9 (f := 46) (by decide) (fun _ _ _ => rfl) rfl (Or.inl rfl) mw_1224 dX9_findLessons_4 (sd_aload_n (i := 0) rfl dX9_findLessons_7 (sd_iconst (v := (-1)) (by decide) dX9_findLessons_8 (sd_putI clsX9 (f := 47) (by decide) (fun _ _ _ => rfl) rfl (Or.inl rfl) mw_1225 dX9_findLessons_9 (sd_aload_n (i := 0) rfl dX9_findLessons_12 (sd_iconst (v := 0) (by decide) dX9_findLessons_13 (sd_putI clsX9 (f := 48) (by decide) (fun _ _ _ => rfl) rfl (Or.inl rfl) mw_1226 dX9_findLessons_14 (sd_iconst (v := 0) (by decide) dX9_findLessons_17 (sd_istore_n (i := 3) rfl (by decide) dX9_findLessons_18 (Sd.go))))))))))) : Sd l E YX9_findLessons (d + 1) 0 0 Q 0 0 0 (bX9_findLessons_0 l E d Q)) ls st h hB
def bX9_findLessons_19 (l : Launch) (E : Ev) (d : Nat) (Q : Option Value → Hp → Prop) : Kt := k_iload 3 (k_push (.int 1) (k_aload 0 (k_getR 9 55 3 (k_push (.int 8) (k_iaload (k_ishl (k_icmp_ge (k_vret Q) (k_iload 2 (k_push (.int (-1)) (k_icmp_eq (Go l E YX9_findLessons (d + 1) 0 0 Q 0 0 45) (k_iload 3 (k_iload 2 (k_callS l E YX9_is d 0 0 2 (k_if_ne (k_iinc 3 1 (Go l E YX9_findLessons (d + 1) 0 0 Q 0 0 19)) (Go l E YX9_findLessons (d + 1) 0 0 Q 0 0 45)))))))))))))))
set_option maxRecDepth 100000 in
set_option maxHeartbeats 4000000 in
theorem gX9_findLessons_19 {l : Launch} {E : Ev} {d : Nat} {Q : Option Value → Hp → Prop} {ls : Lv} {st : List Value} {h : Hp} (hB : bX9_findLessons_19 l E d Q ls st h) : Go l E YX9_findLessons (d + 1) 0 0 Q 0 0 19 ls st h :=
  (sd_iload_n (i := 3) rfl dX9_findLessons_19 (sd_iconst (v := 1) (by decide) dX9_findLessons_20 (sd_aload_n (i := 0) rfl dX9_findLessons_21 (sd_getR clsX9 (f := 3) (by decide) (fun _ _ _ => rfl) mw_1181 dX9_findLessons_22 (sd_bipush (v := 8) (by decide) dX9_findLessons_25 (sd_iaload dX9_findLessons_27 (sd_ishl dX9_findLessons_28 (sd_icmp_ge (tgt := 231) (by decide) dX9_findLessons_29 (sd_vret rfl (by decide) (by decide) dX9_findLessons_231) (sd_iload_n (i := 2) rfl dX9_findLessons_32 (sd_iconst (v := (-1)) (by decide) dX9_findLessons_33 (sd_icmp_eq (tgt := 45) (by decide) dX9_findLessons_34 (Sd.go) (sd_iload_n (i := 3) rfl dX9_findLessons_37 (sd_iload_n (i := 2) rfl dX9_findLessons_38 (sd_callS (Y' := YX9_is) (mc' := 0) (ms' := 0) (n := 2) mw_1603 mw_1604 mw_108 mw_1605 (okmX9_is) (by decide) (Nat.le_refl _) (by decide) (by decide) dX9_findLessons_39 (sd_if_ne (tgt := 225) (by decide) dX9_findLessons_42 (sd_iinc (i := 3) (v := 1) (by decide) (by decide) dX9_findLessons_225 (sd_goto (tgt := 19) (by decide) dX9_findLessons_228 (Sd.go))) (Sd.go))))))))))))))) : Sd l E YX9_findLessons (d + 1) 0 0 Q 0 0 19 (bX9_findLessons_19 l E d Q)) ls st h hB
def bX9_findLessons_45 (l : Launch) (E : Ev) (d : Nat) (Q : Option Value → Hp → Prop) : Kt := k_aload 0 (k_callV l E 9 55 YX9_asIs d 0 0 0 (k_push (.int 0) (k_istore 4 (k_push (.int 0) (k_istore 5 (Go l E YX9_findLessons (d + 1) 0 0 Q 0 0 55))))))
set_option maxRecDepth 100000 in
set_option maxHeartbeats 4000000 in
theorem gX9_findLessons_45 {l : Launch} {E : Ev} {d : Nat} {Q : Option Value → Hp → Prop} {ls : Lv} {st : List Value} {h : Hp} (hB : bX9_findLessons_45 l E d Q ls st h) : Go l E YX9_findLessons (d + 1) 0 0 Q 0 0 45 ls st h :=
  (sd_aload_n (i := 0) rfl dX9_findLessons_45 (sd_callV (Y' := YX9_asIs) (mc' := 0) (ms' := 0) (n := 0) clsX9.1 mw_1559 mw_1561 mw_71 mw_108 mw_1562 rfl (okmX9_asIs) (by decide) (Nat.le_refl _) (by decide) (by decide) dX9_findLessons_46 (sd_iconst (v := 0) (by decide) dX9_findLessons_49 (sd_istore (i := 4) (by decide) dX9_findLessons_50 (sd_iconst (v := 0) (by decide) dX9_findLessons_52 (sd_istore (i := 5) (by decide) dX9_findLessons_53 (Sd.go)))))) : Sd l E YX9_findLessons (d + 1) 0 0 Q 0 0 45 (bX9_findLessons_45 l E d Q)) ls st h hB
def bX9_findLessons_55 (l : Launch) (E : Ev) (d : Nat) (Q : Option Value → Hp → Prop) : Kt := k_iload 5 (k_aload 0 (k_getR 9 55 3 (k_push (.int 8) (k_iaload (k_icmp_ge (k_aload 0 (k_callV l E 9 55 YX9_find d 0 0 0 (k_aload 0 (k_callV l E 9 55 YX9_findPlays d 0 0 0 (k_aload 0 (k_iload 1 (k_callV l E 9 55 YX9_shutBy d 0 0 1 (k_push (.int (-1)) (k_icmp_ne (k_iinc 3 1 (Go l E YX9_findLessons (d + 1) 0 0 Q 0 0 19)) (k_aload 0 (k_dup (k_getI 9 55 48 (k_push (.int 1) (k_iadd (k_putI 9 55 48 (k_aload 0 (k_iload 4 (k_aload 0 (k_getI 9 55 46 (k_icmp_ge (k_aload 0 (k_getI 9 55 47 (Go l E YX9_findLessons (d + 1) 0 0 Q 0 0 200))) (k_iload 3 (Go l E YX9_findLessons (d + 1) 0 0 Q 0 0 200)))))))))))))))))))))) (k_iload 3 (k_iload 5 (k_callS l E YX9_is d 0 0 2 (k_if_eq (k_iinc 5 1 (Go l E YX9_findLessons (d + 1) 0 0 Q 0 0 55)) (k_push (.int 8) (k_aload 0 (k_iload 5 (k_push (.int 0) (k_callV l E 9 55 YX9_ofLesson d 0 0 2 (k_imul (k_aload 0 (k_iload 5 (k_push (.int 1) (k_callV l E 9 55 YX9_ofLesson d 0 0 2 (k_iadd (k_istore 6 (k_aload 0 (k_getR 9 55 33 (k_iload 6 (k_aload 0 (k_getR 9 55 33 (k_iload 6 (k_iaload (k_aload 0 (k_iload 5 (k_push (.int 2) (k_callV l E 9 55 YX9_ofLesson d 0 0 2 (k_icmp_ge (k_aload 0 (k_getR 9 55 33 (k_iload 6 (k_iaload (Go l E YX9_findLessons (d + 1) 0 0 Q 0 0 136))))) (k_aload 0 (k_iload 5 (k_push (.int 2) (k_callV l E 9 55 YX9_ofLesson d 0 0 2 (Go l E YX9_findLessons (d + 1) 0 0 Q 0 0 136))))))))))))))))))))))))))))))))))))))
set_option maxRecDepth 100000 in
set_option maxHeartbeats 4000000 in
theorem gX9_findLessons_55 {l : Launch} {E : Ev} {d : Nat} {Q : Option Value → Hp → Prop} {ls : Lv} {st : List Value} {h : Hp} (hB : bX9_findLessons_55 l E d Q ls st h) : Go l E YX9_findLessons (d + 1) 0 0 Q 0 0 55 ls st h :=
  (sd_iload (n := 5) dX9_findLessons_55 (sd_aload_n (i := 0) rfl dX9_findLessons_57 (sd_getR clsX9 (f := 3) (by decide) (fun _ _ _ => rfl) mw_1181 dX9_findLessons_58 (sd_bipush (v := 8) (by decide) dX9_findLessons_61 (sd_iaload dX9_findLessons_63 (sd_icmp_ge (tgt := 155) (by decide) dX9_findLessons_64 (sd_aload_n (i := 0) rfl dX9_findLessons_155 (sd_callV (Y' := YX9_find) (mc' := 0) (ms' := 0) (n := 0) clsX9.1 mw_1563 mw_1565 mw_72 mw_108 mw_1566 rfl (okmX9_find) (by decide) (Nat.le_refl _) (by decide) (by decide) dX9_findLessons_156 (sd_aload_n (i := 0) rfl dX9_findLessons_159 (sd_callV (Y' := YX9_findPlays) (mc' := 0) (ms' := 0) (n := 0) clsX9.1 mw_1678 mw_1680 mw_89 mw_108 mw_1681 rfl (okmX9_findPlays) (by decide) (Nat.le_refl _) (by decide) (by decide) dX9_findLessons_160 (sd_aload_n (i := 0) rfl dX9_findLessons_163 (sd_iload_n (i := 1) rfl dX9_findLessons_164 (sd_callV (Y' := YX9_shutBy) (mc' := 0) (ms' := 0) (n := 1) clsX9.1 mw_1706 mw_1708 mw_93 mw_108 mw_1709 rfl (okmX9_shutBy) (by decide) (Nat.le_refl _) (by decide) (by decide) dX9_findLessons_165 (sd_iconst (v := (-1)) (by decide) dX9_findLessons_168 (sd_icmp_ne (tgt := 225) (by decide) dX9_findLessons_169 (sd_iinc (i := 3) (v := 1) (by decide) (by decide) dX9_findLessons_225 (sd_goto (tgt := 19) (by decide) dX9_findLessons_228 (Sd.go))) (sd_aload_n (i := 0) rfl dX9_findLessons_172 (sd_dup dX9_findLessons_173 (sd_getI clsX9 (f := 48) (by decide) (fun _ _ _ => rfl) mw_1226 dX9_findLessons_174 (sd_iconst (v := 1) (by decide) dX9_findLessons_177 (sd_iadd dX9_findLessons_178 (sd_putI clsX9 (f := 48) (by decide) (fun _ _ _ => rfl) rfl (Or.inl rfl) mw_1226 dX9_findLessons_179 (sd_aload_n (i := 0) rfl dX9_findLessons_182 (sd_iload (n := 4) dX9_findLessons_183 (sd_aload_n (i := 0) rfl dX9_findLessons_185 (sd_getI clsX9 (f := 46) (by decide) (fun _ _ _ => rfl) mw_1224 dX9_findLessons_186 (sd_icmp_ge (tgt := 196) (by decide) dX9_findLessons_189 (sd_aload_n (i := 0) rfl dX9_findLessons_196 (sd_getI clsX9 (f := 47) (by decide) (fun _ _ _ => rfl) mw_1225 dX9_findLessons_197 (Sd.go))) (sd_iload_n (i := 3) rfl dX9_findLessons_192 (sd_goto (tgt := 200) (by decide) dX9_findLessons_193 (Sd.go))))))))))))))))))))))) (sd_iload_n (i := 3) rfl dX9_findLessons_67 (sd_iload (n := 5) dX9_findLessons_68 (sd_callS (Y' := YX9_is) (mc' := 0) (ms' := 0) (n := 2) mw_1603 mw_1604 mw_108 mw_1605 (okmX9_is) (by decide) (Nat.le_refl _) (by decide) (by decide) dX9_findLessons_70 (sd_if_eq (tgt := 149) (by decide) dX9_findLessons_73 (sd_iinc (i := 5) (v := 1) (by decide) (by decide) dX9_findLessons_149 (sd_goto (tgt := 55) (by decide) dX9_findLessons_152 (Sd.go))) (sd_bipush (v := 8) (by decide) dX9_findLessons_76 (sd_aload_n (i := 0) rfl dX9_findLessons_78 (sd_iload (n := 5) dX9_findLessons_79 (sd_iconst (v := 0) (by decide) dX9_findLessons_81 (sd_callV (Y' := YX9_ofLesson) (mc' := 0) (ms' := 0) (n := 2) clsX9.1 mw_1754 mw_1756 mw_97 mw_108 mw_1757 rfl (okmX9_ofLesson) (by decide) (Nat.le_refl _) (by decide) (by decide) dX9_findLessons_82 (sd_imul dX9_findLessons_85 (sd_aload_n (i := 0) rfl dX9_findLessons_86 (sd_iload (n := 5) dX9_findLessons_87 (sd_iconst (v := 1) (by decide) dX9_findLessons_89 (sd_callV (Y' := YX9_ofLesson) (mc' := 0) (ms' := 0) (n := 2) clsX9.1 mw_1754 mw_1756 mw_97 mw_108 mw_1757 rfl (okmX9_ofLesson) (by decide) (Nat.le_refl _) (by decide) (by decide) dX9_findLessons_90 (sd_iadd dX9_findLessons_93 (sd_istore (i := 6) (by decide) dX9_findLessons_94 (sd_aload_n (i := 0) rfl dX9_findLessons_96 (sd_getR clsX9 (f := 33) (by decide) (fun _ _ _ => rfl) mw_1211 dX9_findLessons_97 (sd_iload (n := 6) dX9_findLessons_100 (sd_aload_n (i := 0) rfl dX9_findLessons_102 (sd_getR clsX9 (f := 33) (by decide) (fun _ _ _ => rfl) mw_1211 dX9_findLessons_103 (sd_iload (n := 6) dX9_findLessons_106 (sd_iaload dX9_findLessons_108 (sd_aload_n (i := 0) rfl dX9_findLessons_109 (sd_iload (n := 5) dX9_findLessons_110 (sd_iconst (v := 2) (by decide) dX9_findLessons_112 (sd_callV (Y' := YX9_ofLesson) (mc' := 0) (ms' := 0) (n := 2) clsX9.1 mw_1754 mw_1756 mw_97 mw_108 mw_1757 rfl (okmX9_ofLesson) (by decide) (Nat.le_refl _) (by decide) (by decide) dX9_findLessons_113 (sd_icmp_ge (tgt := 129) (by decide) dX9_findLessons_116 (sd_aload_n (i := 0) rfl dX9_findLessons_129 (sd_getR clsX9 (f := 33) (by decide) (fun _ _ _ => rfl) mw_1211 dX9_findLessons_130 (sd_iload (n := 6) dX9_findLessons_133 (sd_iaload dX9_findLessons_135 (Sd.go))))) (sd_aload_n (i := 0) rfl dX9_findLessons_119 (sd_iload (n := 5) dX9_findLessons_120 (sd_iconst (v := 2) (by decide) dX9_findLessons_122 (sd_callV (Y' := YX9_ofLesson) (mc' := 0) (ms' := 0) (n := 2) clsX9.1 mw_1754 mw_1756 mw_97 mw_108 mw_1757 rfl (okmX9_ofLesson) (by decide) (Nat.le_refl _) (by decide) (by decide) dX9_findLessons_123 (sd_goto (tgt := 136) (by decide) dX9_findLessons_126 (Sd.go))))))))))))))))))))))))))))))))))))))) : Sd l E YX9_findLessons (d + 1) 0 0 Q 0 0 55 (bX9_findLessons_55 l E d Q)) ls st h hB
def bX9_findLessons_136 (l : Launch) (E : Ev) (d : Nat) (Q : Option Value → Hp → Prop) : Kt := k_iastore (k_iload 4 (k_aload 0 (k_iload 5 (k_push (.int 3) (k_callV l E 9 55 YX9_ofLesson d 0 0 2 (k_iadd (k_istore 4 (k_iinc 5 1 (Go l E YX9_findLessons (d + 1) 0 0 Q 0 0 55)))))))))
set_option maxRecDepth 100000 in
set_option maxHeartbeats 4000000 in
theorem gX9_findLessons_136 {l : Launch} {E : Ev} {d : Nat} {Q : Option Value → Hp → Prop} {ls : Lv} {st : List Value} {h : Hp} (hB : bX9_findLessons_136 l E d Q ls st h) : Go l E YX9_findLessons (d + 1) 0 0 Q 0 0 136 ls st h :=
  (sd_iastore dX9_findLessons_136 (sd_iload (n := 4) dX9_findLessons_137 (sd_aload_n (i := 0) rfl dX9_findLessons_139 (sd_iload (n := 5) dX9_findLessons_140 (sd_iconst (v := 3) (by decide) dX9_findLessons_142 (sd_callV (Y' := YX9_ofLesson) (mc' := 0) (ms' := 0) (n := 2) clsX9.1 mw_1754 mw_1756 mw_97 mw_108 mw_1757 rfl (okmX9_ofLesson) (by decide) (Nat.le_refl _) (by decide) (by decide) dX9_findLessons_143 (sd_iadd dX9_findLessons_146 (sd_istore (i := 4) (by decide) dX9_findLessons_147 (sd_iinc (i := 5) (v := 1) (by decide) (by decide) dX9_findLessons_149 (sd_goto (tgt := 55) (by decide) dX9_findLessons_152 (Sd.go)))))))))) : Sd l E YX9_findLessons (d + 1) 0 0 Q 0 0 136 (bX9_findLessons_136 l E d Q)) ls st h hB
def bX9_findLessons_200 (l : Launch) (E : Ev) (d : Nat) (Q : Option Value → Hp → Prop) : Kt := k_putI 9 55 47 (k_aload 0 (k_iload 4 (k_aload 0 (k_getI 9 55 46 (k_icmp_ge (k_aload 0 (k_getI 9 55 46 (k_putI 9 55 46 (k_iinc 3 1 (Go l E YX9_findLessons (d + 1) 0 0 Q 0 0 19))))) (k_iload 4 (k_putI 9 55 46 (k_iinc 3 1 (Go l E YX9_findLessons (d + 1) 0 0 Q 0 0 19)))))))))
set_option maxRecDepth 100000 in
set_option maxHeartbeats 4000000 in
theorem gX9_findLessons_200 {l : Launch} {E : Ev} {d : Nat} {Q : Option Value → Hp → Prop} {ls : Lv} {st : List Value} {h : Hp} (hB : bX9_findLessons_200 l E d Q ls st h) : Go l E YX9_findLessons (d + 1) 0 0 Q 0 0 200 ls st h :=
  (sd_putI clsX9 (f := 47) (by decide) (fun _ _ _ => rfl) rfl (Or.inl rfl) mw_1225 dX9_findLessons_200 (sd_aload_n (i := 0) rfl dX9_findLessons_203 (sd_iload (n := 4) dX9_findLessons_204 (sd_aload_n (i := 0) rfl dX9_findLessons_206 (sd_getI clsX9 (f := 46) (by decide) (fun _ _ _ => rfl) mw_1224 dX9_findLessons_207 (sd_icmp_ge (tgt := 218) (by decide) dX9_findLessons_210 (sd_aload_n (i := 0) rfl dX9_findLessons_218 (sd_getI clsX9 (f := 46) (by decide) (fun _ _ _ => rfl) mw_1224 dX9_findLessons_219 (sd_putI clsX9 (f := 46) (by decide) (fun _ _ _ => rfl) rfl (Or.inl rfl) mw_1224 dX9_findLessons_222 (sd_iinc (i := 3) (v := 1) (by decide) (by decide) dX9_findLessons_225 (sd_goto (tgt := 19) (by decide) dX9_findLessons_228 (Sd.go)))))) (sd_iload (n := 4) dX9_findLessons_213 (sd_goto (tgt := 222) (by decide) dX9_findLessons_215 (sd_putI clsX9 (f := 46) (by decide) (fun _ _ _ => rfl) rfl (Or.inl rfl) mw_1224 dX9_findLessons_222 (sd_iinc (i := 3) (v := 1) (by decide) (by decide) dX9_findLessons_225 (sd_goto (tgt := 19) (by decide) dX9_findLessons_228 (Sd.go))))))))))) : Sd l E YX9_findLessons (d + 1) 0 0 Q 0 0 200 (bX9_findLessons_200 l E d Q)) ls st h hB
theorem eX9_findLessons {l : Launch} {E : Ev} {d : Nat} {Q : Option Value → Hp → Prop} {h : Hp} {a0 : Nat} {x1 : Int32} {x2 : Int32} (hk : Go l E YX9_findLessons d 0 0 Q 0 0 0 [some (.ref a0), some (.int x1), some (.int x2), none, none, none, none] [] h) : GoM l E YX9_findLessons d 0 0 [.ref a0, .int x1, .int x2] h Q := GoM.of (by decide +kernel) rfl (by simp [entA, YX9_findLessons]) hk
theorem dX9_learn_0 : decode cX9_learn 0 = .ok (.aload_n 0, 1) := by decide +kernel
theorem dX9_learn_1 : decode cX9_learn 1 = .ok (.iconst 0, 1) := by decide +kernel
theorem dX9_learn_2 : decode cX9_learn 2 = .ok (.putfield 123, 3) := by decide +kernel
theorem dX9_learn_5 : decode cX9_learn 5 = .ok (.iload_n 1, 1) := by decide +kernel
theorem dX9_learn_6 : decode cX9_learn 6 = .ok (.i2l, 1) := by decide +kernel
theorem dX9_learn_7 : decode cX9_learn 7 = .ok (.lconst 0, 1) := by decide +kernel
theorem dX9_learn_8 : decode cX9_learn 8 = .ok (.ldc2_w 349, 3) := by decide +kernel
theorem dX9_learn_11 : decode cX9_learn 11 = .ok (.invokestatic 133, 3) := by decide +kernel
theorem dX9_learn_14 : decode cX9_learn 14 = .ok (.ifCond .eq 15, 3) := by decide +kernel
theorem dX9_learn_17 : decode cX9_learn 17 = .ok (.iload_n 2, 1) := by decide +kernel
theorem dX9_learn_18 : decode cX9_learn 18 = .ok (.i2l, 1) := by decide +kernel
theorem dX9_learn_19 : decode cX9_learn 19 = .ok (.lconst 0, 1) := by decide +kernel
theorem dX9_learn_20 : decode cX9_learn 20 = .ok (.ldc2_w 394, 3) := by decide +kernel
theorem dX9_learn_23 : decode cX9_learn 23 = .ok (.invokestatic 133, 3) := by decide +kernel
theorem dX9_learn_26 : decode cX9_learn 26 = .ok (.ifCond .ne 5, 3) := by decide +kernel
theorem dX9_learn_29 : decode cX9_learn 29 = .ok (.iconst (-1), 1) := by decide +kernel
theorem dX9_learn_30 : decode cX9_learn 30 = .ok (.ireturn, 1) := by decide +kernel
theorem dX9_learn_31 : decode cX9_learn 31 = .ok (.aload_n 0, 1) := by decide +kernel
theorem dX9_learn_32 : decode cX9_learn 32 = .ok (.iload_n 1, 1) := by decide +kernel
theorem dX9_learn_33 : decode cX9_learn 33 = .ok (.iconst (-1), 1) := by decide +kernel
theorem dX9_learn_34 : decode cX9_learn 34 = .ok (.invokevirtual 452, 3) := by decide +kernel
theorem dX9_learn_37 : decode cX9_learn 37 = .ok (.iload_n 2, 1) := by decide +kernel
theorem dX9_learn_38 : decode cX9_learn 38 = .ok (.iconst 2, 1) := by decide +kernel
theorem dX9_learn_39 : decode cX9_learn 39 = .ok (.if_icmp .ne 10, 3) := by decide +kernel
theorem dX9_learn_42 : decode cX9_learn 42 = .ok (.aload_n 0, 1) := by decide +kernel
theorem dX9_learn_43 : decode cX9_learn 43 = .ok (.getfield 446, 3) := by decide +kernel
theorem dX9_learn_46 : decode cX9_learn 46 = .ok (.goto 29, 3) := by decide +kernel
theorem dX9_learn_49 : decode cX9_learn 49 = .ok (.aload_n 0, 1) := by decide +kernel
theorem dX9_learn_50 : decode cX9_learn 50 = .ok (.getfield 446, 3) := by decide +kernel
theorem dX9_learn_53 : decode cX9_learn 53 = .ok (.ifCond .ne 7, 3) := by decide +kernel
theorem dX9_learn_56 : decode cX9_learn 56 = .ok (.iconst (-1), 1) := by decide +kernel
theorem dX9_learn_57 : decode cX9_learn 57 = .ok (.goto 18, 3) := by decide +kernel
theorem dX9_learn_60 : decode cX9_learn 60 = .ok (.iload_n 2, 1) := by decide +kernel
theorem dX9_learn_61 : decode cX9_learn 61 = .ok (.ifCond .ne 10, 3) := by decide +kernel
theorem dX9_learn_64 : decode cX9_learn 64 = .ok (.aload_n 0, 1) := by decide +kernel
theorem dX9_learn_65 : decode cX9_learn 65 = .ok (.getfield 440, 3) := by decide +kernel
theorem dX9_learn_68 : decode cX9_learn 68 = .ok (.goto 7, 3) := by decide +kernel
theorem dX9_learn_71 : decode cX9_learn 71 = .ok (.aload_n 0, 1) := by decide +kernel
theorem dX9_learn_72 : decode cX9_learn 72 = .ok (.getfield 443, 3) := by decide +kernel
theorem dX9_learn_75 : decode cX9_learn 75 = .ok (.ireturn, 1) := by decide +kernel
def bX9_learn_0 (l : Launch) (E : Ev) (d : Nat) (Q : Option Value → Hp → Prop) : Kt := k_aload 0 (k_push (.int 0) (k_putI 9 55 0 (k_iload 1 (k_i2l (k_push (.long 0) (k_push (.long 3) (k_callS l E YX9_in d 0 0 3 (k_if_eq (k_push (.int (-1)) (k_iret .int Q)) (k_iload 2 (k_i2l (k_push (.long 0) (k_push (.long 2) (k_callS l E YX9_in d 0 0 3 (k_if_ne (k_aload 0 (k_iload 1 (k_push (.int (-1)) (k_callV l E 9 55 YX9_findLessons d 0 0 2 (k_iload 2 (k_push (.int 2) (k_icmp_ne (k_aload 0 (k_getI 9 55 48 (k_if_ne (k_iload 2 (k_if_ne (k_aload 0 (k_getI 9 55 47 (k_iret .int Q))) (k_aload 0 (k_getI 9 55 46 (k_iret .int Q))))) (k_push (.int (-1)) (k_iret .int Q))))) (k_aload 0 (k_getI 9 55 48 (k_iret .int Q)))))))))) (k_push (.int (-1)) (k_iret .int Q))))))))))))))))
set_option maxRecDepth 100000 in
set_option maxHeartbeats 4000000 in
theorem gX9_learn_0 {l : Launch} {E : Ev} {d : Nat} {Q : Option Value → Hp → Prop} {ls : Lv} {st : List Value} {h : Hp} (hB : bX9_learn_0 l E d Q ls st h) : Go l E YX9_learn (d + 1) 0 0 Q 0 0 0 ls st h :=
  (sd_aload_n (i := 0) rfl dX9_learn_0 (sd_iconst (v := 0) (by decide) dX9_learn_1 (sd_putI clsX9 (f := 0) (by decide) (fun _ _ _ => rfl) rfl (Or.inl rfl) mw_1178 dX9_learn_2 (sd_iload_n (i := 1) rfl dX9_learn_5 (sd_i2l dX9_learn_6 (sd_lconst (v := 0) (by decide) dX9_learn_7 (sd_ldc2 (v := 3) mw_1558 dX9_learn_8 (sd_callS (Y' := YX9_in) (mc' := 0) (ms' := 0) (n := 3) mw_1348 mw_1349 mw_108 mw_1350 (okmX9_in) (by decide) (Nat.le_refl _) (by decide) (by decide) dX9_learn_11 (sd_if_eq (tgt := 29) (by decide) dX9_learn_14 (sd_iconst (v := (-1)) (by decide) dX9_learn_29 (sd_iret (ty := .int) rfl (by decide) (by decide) dX9_learn_30)) (sd_iload_n (i := 2) rfl dX9_learn_17 (sd_i2l dX9_learn_18 (sd_lconst (v := 0) (by decide) dX9_learn_19 (sd_ldc2 (v := 2) mw_1589 dX9_learn_20 (sd_callS (Y' := YX9_in) (mc' := 0) (ms' := 0) (n := 3) mw_1348 mw_1349 mw_108 mw_1350 (okmX9_in) (by decide) (Nat.le_refl _) (by decide) (by decide) dX9_learn_23 (sd_if_ne (tgt := 31) (by decide) dX9_learn_26 (sd_aload_n (i := 0) rfl dX9_learn_31 (sd_iload_n (i := 1) rfl dX9_learn_32 (sd_iconst (v := (-1)) (by decide) dX9_learn_33 (sd_callV (Y' := YX9_findLessons) (mc' := 0) (ms' := 0) (n := 2) clsX9.1 mw_1750 mw_1752 mw_96 mw_108 mw_1753 rfl (okmX9_findLessons) (by decide) (Nat.le_refl _) (by decide) (by decide) dX9_learn_34 (sd_iload_n (i := 2) rfl dX9_learn_37 (sd_iconst (v := 2) (by decide) dX9_learn_38 (sd_icmp_ne (tgt := 49) (by decide) dX9_learn_39 (sd_aload_n (i := 0) rfl dX9_learn_49 (sd_getI clsX9 (f := 48) (by decide) (fun _ _ _ => rfl) mw_1226 dX9_learn_50 (sd_if_ne (tgt := 60) (by decide) dX9_learn_53 (sd_iload_n (i := 2) rfl dX9_learn_60 (sd_if_ne (tgt := 71) (by decide) dX9_learn_61 (sd_aload_n (i := 0) rfl dX9_learn_71 (sd_getI clsX9 (f := 47) (by decide) (fun _ _ _ => rfl) mw_1225 dX9_learn_72 (sd_iret (ty := .int) rfl (by decide) (by decide) dX9_learn_75))) (sd_aload_n (i := 0) rfl dX9_learn_64 (sd_getI clsX9 (f := 46) (by decide) (fun _ _ _ => rfl) mw_1224 dX9_learn_65 (sd_goto (tgt := 75) (by decide) dX9_learn_68 (sd_iret (ty := .int) rfl (by decide) (by decide) dX9_learn_75)))))) (sd_iconst (v := (-1)) (by decide) dX9_learn_56 (sd_goto (tgt := 75) (by decide) dX9_learn_57 (sd_iret (ty := .int) rfl (by decide) (by decide) dX9_learn_75)))))) (sd_aload_n (i := 0) rfl dX9_learn_42 (sd_getI clsX9 (f := 48) (by decide) (fun _ _ _ => rfl) mw_1226 dX9_learn_43 (sd_goto (tgt := 75) (by decide) dX9_learn_46 (sd_iret (ty := .int) rfl (by decide) (by decide) dX9_learn_75))))))))))) (sd_iconst (v := (-1)) (by decide) dX9_learn_29 (sd_iret (ty := .int) rfl (by decide) (by decide) dX9_learn_30)))))))))))))))) : Sd l E YX9_learn (d + 1) 0 0 Q 0 0 0 (bX9_learn_0 l E d Q)) ls st h hB
theorem eX9_learn {l : Launch} {E : Ev} {d : Nat} {Q : Option Value → Hp → Prop} {h : Hp} {a0 : Nat} {x1 : Int32} {x2 : Int32} (hk : Go l E YX9_learn d 0 0 Q 0 0 0 [some (.ref a0), some (.int x1), some (.int x2)] [] h) : GoM l E YX9_learn d 0 0 [.ref a0, .int x1, .int x2] h Q := GoM.of (by decide +kernel) rfl (by simp [entA, YX9_learn]) hk
theorem dX9_worth_0 : decode cX9_worth 0 = .ok (.aload_n 0, 1) := by decide +kernel
theorem dX9_worth_1 : decode cX9_worth 1 = .ok (.iconst 0, 1) := by decide +kernel
theorem dX9_worth_2 : decode cX9_worth 2 = .ok (.putfield 123, 3) := by decide +kernel
theorem dX9_worth_5 : decode cX9_worth 5 = .ok (.iload_n 1, 1) := by decide +kernel
theorem dX9_worth_6 : decode cX9_worth 6 = .ok (.i2l, 1) := by decide +kernel
theorem dX9_worth_7 : decode cX9_worth 7 = .ok (.lconst 0, 1) := by decide +kernel
theorem dX9_worth_8 : decode cX9_worth 8 = .ok (.ldc2_w 349, 3) := by decide +kernel
theorem dX9_worth_11 : decode cX9_worth 11 = .ok (.invokestatic 133, 3) := by decide +kernel
theorem dX9_worth_14 : decode cX9_worth 14 = .ok (.ifCond .eq 11, 3) := by decide +kernel
theorem dX9_worth_17 : decode cX9_worth 17 = .ok (.aload_n 0, 1) := by decide +kernel
theorem dX9_worth_18 : decode cX9_worth 18 = .ok (.iload_n 2, 1) := by decide +kernel
theorem dX9_worth_19 : decode cX9_worth 19 = .ok (.invokevirtual 434, 3) := by decide +kernel
theorem dX9_worth_22 : decode cX9_worth 22 = .ok (.ifCond .ne 5, 3) := by decide +kernel
theorem dX9_worth_25 : decode cX9_worth 25 = .ok (.iconst (-1), 1) := by decide +kernel
theorem dX9_worth_26 : decode cX9_worth 26 = .ok (.ireturn, 1) := by decide +kernel
theorem dX9_worth_27 : decode cX9_worth 27 = .ok (.aload_n 0, 1) := by decide +kernel
theorem dX9_worth_28 : decode cX9_worth 28 = .ok (.iload_n 1, 1) := by decide +kernel
theorem dX9_worth_29 : decode cX9_worth 29 = .ok (.iconst (-1), 1) := by decide +kernel
theorem dX9_worth_30 : decode cX9_worth 30 = .ok (.invokevirtual 452, 3) := by decide +kernel
theorem dX9_worth_33 : decode cX9_worth 33 = .ok (.aload_n 0, 1) := by decide +kernel
theorem dX9_worth_34 : decode cX9_worth 34 = .ok (.getfield 446, 3) := by decide +kernel
theorem dX9_worth_37 : decode cX9_worth 37 = .ok (.ifCond .ne 5, 3) := by decide +kernel
theorem dX9_worth_40 : decode cX9_worth 40 = .ok (.iconst (-1), 1) := by decide +kernel
theorem dX9_worth_41 : decode cX9_worth 41 = .ok (.ireturn, 1) := by decide +kernel
theorem dX9_worth_42 : decode cX9_worth 42 = .ok (.aload_n 0, 1) := by decide +kernel
theorem dX9_worth_43 : decode cX9_worth 43 = .ok (.getfield 440, 3) := by decide +kernel
theorem dX9_worth_46 : decode cX9_worth 46 = .ok (.istore_n 3, 1) := by decide +kernel
theorem dX9_worth_47 : decode cX9_worth 47 = .ok (.aload_n 0, 1) := by decide +kernel
theorem dX9_worth_48 : decode cX9_worth 48 = .ok (.iload_n 1, 1) := by decide +kernel
theorem dX9_worth_49 : decode cX9_worth 49 = .ok (.iload_n 2, 1) := by decide +kernel
theorem dX9_worth_50 : decode cX9_worth 50 = .ok (.invokevirtual 452, 3) := by decide +kernel
theorem dX9_worth_53 : decode cX9_worth 53 = .ok (.aload_n 0, 1) := by decide +kernel
theorem dX9_worth_54 : decode cX9_worth 54 = .ok (.getfield 446, 3) := by decide +kernel
theorem dX9_worth_57 : decode cX9_worth 57 = .ok (.ifCond .ne 9, 3) := by decide +kernel
theorem dX9_worth_60 : decode cX9_worth 60 = .ok (.sipush 1000, 3) := by decide +kernel
theorem dX9_worth_63 : decode cX9_worth 63 = .ok (.goto 9, 3) := by decide +kernel
theorem dX9_worth_66 : decode cX9_worth 66 = .ok (.aload_n 0, 1) := by decide +kernel
theorem dX9_worth_67 : decode cX9_worth 67 = .ok (.getfield 440, 3) := by decide +kernel
theorem dX9_worth_70 : decode cX9_worth 70 = .ok (.iload_n 3, 1) := by decide +kernel
theorem dX9_worth_71 : decode cX9_worth 71 = .ok (.isub, 1) := by decide +kernel
theorem dX9_worth_72 : decode cX9_worth 72 = .ok (.ireturn, 1) := by decide +kernel
def bX9_worth_0 (l : Launch) (E : Ev) (d : Nat) (Q : Option Value → Hp → Prop) : Kt := k_aload 0 (k_push (.int 0) (k_putI 9 55 0 (k_iload 1 (k_i2l (k_push (.long 0) (k_push (.long 3) (k_callS l E YX9_in d 0 0 3 (k_if_eq (k_push (.int (-1)) (k_iret .int Q)) (k_aload 0 (k_iload 2 (k_callV l E 9 55 YX9_isLesson d 0 0 1 (k_if_ne (k_aload 0 (k_iload 1 (k_push (.int (-1)) (k_callV l E 9 55 YX9_findLessons d 0 0 2 (k_aload 0 (k_getI 9 55 48 (k_if_ne (k_aload 0 (k_getI 9 55 46 (k_istore 3 (k_aload 0 (k_iload 1 (k_iload 2 (k_callV l E 9 55 YX9_findLessons d 0 0 2 (k_aload 0 (k_getI 9 55 48 (k_if_ne (k_aload 0 (k_getI 9 55 46 (k_iload 3 (k_isub (k_iret .int Q))))) (k_push (.int 1000) (k_iret .int Q)))))))))))) (k_push (.int (-1)) (k_iret .int Q))))))))) (k_push (.int (-1)) (k_iret .int Q))))))))))))))
set_option maxRecDepth 100000 in
set_option maxHeartbeats 4000000 in
theorem gX9_worth_0 {l : Launch} {E : Ev} {d : Nat} {Q : Option Value → Hp → Prop} {ls : Lv} {st : List Value} {h : Hp} (hB : bX9_worth_0 l E d Q ls st h) : Go l E YX9_worth (d + 1) 0 0 Q 0 0 0 ls st h :=
  (sd_aload_n (i := 0) rfl dX9_worth_0 (sd_iconst (v := 0) (by decide) dX9_worth_1 (sd_putI clsX9 (f := 0) (by decide) (fun _ _ _ => rfl) rfl (Or.inl rfl) mw_1178 dX9_worth_2 (sd_iload_n (i := 1) rfl dX9_worth_5 (sd_i2l dX9_worth_6 (sd_lconst (v := 0) (by decide) dX9_worth_7 (sd_ldc2 (v := 3) mw_1558 dX9_worth_8 (sd_callS (Y' := YX9_in) (mc' := 0) (ms' := 0) (n := 3) mw_1348 mw_1349 mw_108 mw_1350 (okmX9_in) (by decide) (Nat.le_refl _) (by decide) (by decide) dX9_worth_11 (sd_if_eq (tgt := 25) (by decide) dX9_worth_14 (sd_iconst (v := (-1)) (by decide) dX9_worth_25 (sd_iret (ty := .int) rfl (by decide) (by decide) dX9_worth_26)) (sd_aload_n (i := 0) rfl dX9_worth_17 (sd_iload_n (i := 2) rfl dX9_worth_18 (sd_callV (Y' := YX9_isLesson) (mc' := 0) (ms' := 0) (n := 1) clsX9.1 mw_1738 mw_1740 mw_94 mw_108 mw_1741 rfl (okmX9_isLesson) (by decide) (Nat.le_refl _) (by decide) (by decide) dX9_worth_19 (sd_if_ne (tgt := 27) (by decide) dX9_worth_22 (sd_aload_n (i := 0) rfl dX9_worth_27 (sd_iload_n (i := 1) rfl dX9_worth_28 (sd_iconst (v := (-1)) (by decide) dX9_worth_29 (sd_callV (Y' := YX9_findLessons) (mc' := 0) (ms' := 0) (n := 2) clsX9.1 mw_1750 mw_1752 mw_96 mw_108 mw_1753 rfl (okmX9_findLessons) (by decide) (Nat.le_refl _) (by decide) (by decide) dX9_worth_30 (sd_aload_n (i := 0) rfl dX9_worth_33 (sd_getI clsX9 (f := 48) (by decide) (fun _ _ _ => rfl) mw_1226 dX9_worth_34 (sd_if_ne (tgt := 42) (by decide) dX9_worth_37 (sd_aload_n (i := 0) rfl dX9_worth_42 (sd_getI clsX9 (f := 46) (by decide) (fun _ _ _ => rfl) mw_1224 dX9_worth_43 (sd_istore_n (i := 3) rfl (by decide) dX9_worth_46 (sd_aload_n (i := 0) rfl dX9_worth_47 (sd_iload_n (i := 1) rfl dX9_worth_48 (sd_iload_n (i := 2) rfl dX9_worth_49 (sd_callV (Y' := YX9_findLessons) (mc' := 0) (ms' := 0) (n := 2) clsX9.1 mw_1750 mw_1752 mw_96 mw_108 mw_1753 rfl (okmX9_findLessons) (by decide) (Nat.le_refl _) (by decide) (by decide) dX9_worth_50 (sd_aload_n (i := 0) rfl dX9_worth_53 (sd_getI clsX9 (f := 48) (by decide) (fun _ _ _ => rfl) mw_1226 dX9_worth_54 (sd_if_ne (tgt := 66) (by decide) dX9_worth_57 (sd_aload_n (i := 0) rfl dX9_worth_66 (sd_getI clsX9 (f := 46) (by decide) (fun _ _ _ => rfl) mw_1224 dX9_worth_67 (sd_iload_n (i := 3) rfl dX9_worth_70 (sd_isub dX9_worth_71 (sd_iret (ty := .int) rfl (by decide) (by decide) dX9_worth_72))))) (sd_sipush (v := 1000) (by decide) dX9_worth_60 (sd_goto (tgt := 72) (by decide) dX9_worth_63 (sd_iret (ty := .int) rfl (by decide) (by decide) dX9_worth_72))))))))))))) (sd_iconst (v := (-1)) (by decide) dX9_worth_40 (sd_iret (ty := .int) rfl (by decide) (by decide) dX9_worth_41))))))))) (sd_iconst (v := (-1)) (by decide) dX9_worth_25 (sd_iret (ty := .int) rfl (by decide) (by decide) dX9_worth_26)))))))))))))) : Sd l E YX9_worth (d + 1) 0 0 Q 0 0 0 (bX9_worth_0 l E d Q)) ls st h hB
theorem eX9_worth {l : Launch} {E : Ev} {d : Nat} {Q : Option Value → Hp → Prop} {h : Hp} {a0 : Nat} {x1 : Int32} {x2 : Int32} (hk : Go l E YX9_worth d 0 0 Q 0 0 0 [some (.ref a0), some (.int x1), some (.int x2), none] [] h) : GoM l E YX9_worth d 0 0 [.ref a0, .int x1, .int x2] h Q := GoM.of (by decide +kernel) rfl (by simp [entA, YX9_worth]) hk
theorem dX9_teach_0 : decode cX9_teach 0 = .ok (.aload_n 0, 1) := by decide +kernel
theorem dX9_teach_1 : decode cX9_teach 1 = .ok (.iconst 0, 1) := by decide +kernel
theorem dX9_teach_2 : decode cX9_teach 2 = .ok (.putfield 123, 3) := by decide +kernel
theorem dX9_teach_5 : decode cX9_teach 5 = .ok (.iload_n 1, 1) := by decide +kernel
theorem dX9_teach_6 : decode cX9_teach 6 = .ok (.i2l, 1) := by decide +kernel
theorem dX9_teach_7 : decode cX9_teach 7 = .ok (.lconst 0, 1) := by decide +kernel
theorem dX9_teach_8 : decode cX9_teach 8 = .ok (.iconst 1, 1) := by decide +kernel
theorem dX9_teach_9 : decode cX9_teach 9 = .ok (.aload_n 0, 1) := by decide +kernel
theorem dX9_teach_10 : decode cX9_teach 10 = .ok (.getfield 13, 3) := by decide +kernel
theorem dX9_teach_13 : decode cX9_teach 13 = .ok (.bipush 8, 2) := by decide +kernel
theorem dX9_teach_15 : decode cX9_teach 15 = .ok (.iaload, 1) := by decide +kernel
theorem dX9_teach_16 : decode cX9_teach 16 = .ok (.ishl, 1) := by decide +kernel
theorem dX9_teach_17 : decode cX9_teach 17 = .ok (.i2l, 1) := by decide +kernel
theorem dX9_teach_18 : decode cX9_teach 18 = .ok (.lconst 1, 1) := by decide +kernel
theorem dX9_teach_19 : decode cX9_teach 19 = .ok (.lsub, 1) := by decide +kernel
theorem dX9_teach_20 : decode cX9_teach 20 = .ok (.invokestatic 133, 3) := by decide +kernel
theorem dX9_teach_23 : decode cX9_teach 23 = .ok (.ifCond .ne 9, 3) := by decide +kernel
theorem dX9_teach_26 : decode cX9_teach 26 = .ok (.aload_n 0, 1) := by decide +kernel
theorem dX9_teach_27 : decode cX9_teach 27 = .ok (.iconst (-1), 1) := by decide +kernel
theorem dX9_teach_28 : decode cX9_teach 28 = .ok (.invokevirtual 137, 3) := by decide +kernel
theorem dX9_teach_31 : decode cX9_teach 31 = .ok (.ireturn, 1) := by decide +kernel
theorem dX9_teach_32 : decode cX9_teach 32 = .ok (.iconst 0, 1) := by decide +kernel
theorem dX9_teach_33 : decode cX9_teach 33 = .ok (.istore_n 2, 1) := by decide +kernel
theorem dX9_teach_34 : decode cX9_teach 34 = .ok (.iconst 0, 1) := by decide +kernel
theorem dX9_teach_35 : decode cX9_teach 35 = .ok (.istore_n 3, 1) := by decide +kernel
theorem dX9_teach_36 : decode cX9_teach 36 = .ok (.iload_n 3, 1) := by decide +kernel
theorem dX9_teach_37 : decode cX9_teach 37 = .ok (.aload_n 0, 1) := by decide +kernel
theorem dX9_teach_38 : decode cX9_teach 38 = .ok (.getfield 13, 3) := by decide +kernel
theorem dX9_teach_41 : decode cX9_teach 41 = .ok (.bipush 8, 2) := by decide +kernel
theorem dX9_teach_43 : decode cX9_teach 43 = .ok (.iaload, 1) := by decide +kernel
theorem dX9_teach_44 : decode cX9_teach 44 = .ok (.if_icmp .ge 101, 3) := by decide +kernel
theorem dX9_teach_47 : decode cX9_teach 47 = .ok (.iload_n 1, 1) := by decide +kernel
theorem dX9_teach_48 : decode cX9_teach 48 = .ok (.iload_n 3, 1) := by decide +kernel
theorem dX9_teach_49 : decode cX9_teach 49 = .ok (.invokestatic 363, 3) := by decide +kernel
theorem dX9_teach_52 : decode cX9_teach 52 = .ok (.ifCond .eq 87, 3) := by decide +kernel
theorem dX9_teach_55 : decode cX9_teach 55 = .ok (.bipush 74, 2) := by decide +kernel
theorem dX9_teach_57 : decode cX9_teach 57 = .ok (.bipush 8, 2) := by decide +kernel
theorem dX9_teach_59 : decode cX9_teach 59 = .ok (.aload_n 0, 1) := by decide +kernel
theorem dX9_teach_60 : decode cX9_teach 60 = .ok (.iload_n 3, 1) := by decide +kernel
theorem dX9_teach_61 : decode cX9_teach 61 = .ok (.iconst 0, 1) := by decide +kernel
theorem dX9_teach_62 : decode cX9_teach 62 = .ok (.invokevirtual 449, 3) := by decide +kernel
theorem dX9_teach_65 : decode cX9_teach 65 = .ok (.imul, 1) := by decide +kernel
theorem dX9_teach_66 : decode cX9_teach 66 = .ok (.iadd, 1) := by decide +kernel
theorem dX9_teach_67 : decode cX9_teach 67 = .ok (.aload_n 0, 1) := by decide +kernel
theorem dX9_teach_68 : decode cX9_teach 68 = .ok (.iload_n 3, 1) := by decide +kernel
theorem dX9_teach_69 : decode cX9_teach 69 = .ok (.iconst 1, 1) := by decide +kernel
theorem dX9_teach_70 : decode cX9_teach 70 = .ok (.invokevirtual 449, 3) := by decide +kernel
theorem dX9_teach_73 : decode cX9_teach 73 = .ok (.iadd, 1) := by decide +kernel
theorem dX9_teach_74 : decode cX9_teach 74 = .ok (.istore 4, 2) := by decide +kernel
theorem dX9_teach_76 : decode cX9_teach 76 = .ok (.iload_n 2, 1) := by decide +kernel
theorem dX9_teach_77 : decode cX9_teach 77 = .ok (.aload_n 0, 1) := by decide +kernel
theorem dX9_teach_78 : decode cX9_teach 78 = .ok (.getfield 13, 3) := by decide +kernel
theorem dX9_teach_81 : decode cX9_teach 81 = .ok (.iload 4, 2) := by decide +kernel
theorem dX9_teach_83 : decode cX9_teach 83 = .ok (.iaload, 1) := by decide +kernel
theorem dX9_teach_84 : decode cX9_teach 84 = .ok (.aload_n 0, 1) := by decide +kernel
theorem dX9_teach_85 : decode cX9_teach 85 = .ok (.iload_n 3, 1) := by decide +kernel
theorem dX9_teach_86 : decode cX9_teach 86 = .ok (.iconst 2, 1) := by decide +kernel
theorem dX9_teach_87 : decode cX9_teach 87 = .ok (.invokevirtual 449, 3) := by decide +kernel
theorem dX9_teach_90 : decode cX9_teach 90 = .ok (.if_icmp .ge 7, 3) := by decide +kernel
theorem dX9_teach_93 : decode cX9_teach 93 = .ok (.iconst 1, 1) := by decide +kernel
theorem dX9_teach_94 : decode cX9_teach 94 = .ok (.goto 4, 3) := by decide +kernel
theorem dX9_teach_97 : decode cX9_teach 97 = .ok (.iconst 0, 1) := by decide +kernel
theorem dX9_teach_98 : decode cX9_teach 98 = .ok (.iadd, 1) := by decide +kernel
theorem dX9_teach_99 : decode cX9_teach 99 = .ok (.istore_n 2, 1) := by decide +kernel
theorem dX9_teach_100 : decode cX9_teach 100 = .ok (.aload_n 0, 1) := by decide +kernel
theorem dX9_teach_101 : decode cX9_teach 101 = .ok (.getfield 13, 3) := by decide +kernel
theorem dX9_teach_104 : decode cX9_teach 104 = .ok (.iload 4, 2) := by decide +kernel
theorem dX9_teach_106 : decode cX9_teach 106 = .ok (.aload_n 0, 1) := by decide +kernel
theorem dX9_teach_107 : decode cX9_teach 107 = .ok (.getfield 13, 3) := by decide +kernel
theorem dX9_teach_110 : decode cX9_teach 110 = .ok (.iload 4, 2) := by decide +kernel
theorem dX9_teach_112 : decode cX9_teach 112 = .ok (.iaload, 1) := by decide +kernel
theorem dX9_teach_113 : decode cX9_teach 113 = .ok (.aload_n 0, 1) := by decide +kernel
theorem dX9_teach_114 : decode cX9_teach 114 = .ok (.iload_n 3, 1) := by decide +kernel
theorem dX9_teach_115 : decode cX9_teach 115 = .ok (.iconst 2, 1) := by decide +kernel
theorem dX9_teach_116 : decode cX9_teach 116 = .ok (.invokevirtual 449, 3) := by decide +kernel
theorem dX9_teach_119 : decode cX9_teach 119 = .ok (.if_icmp .ge 12, 3) := by decide +kernel
theorem dX9_teach_122 : decode cX9_teach 122 = .ok (.aload_n 0, 1) := by decide +kernel
theorem dX9_teach_123 : decode cX9_teach 123 = .ok (.iload_n 3, 1) := by decide +kernel
theorem dX9_teach_124 : decode cX9_teach 124 = .ok (.iconst 2, 1) := by decide +kernel
theorem dX9_teach_125 : decode cX9_teach 125 = .ok (.invokevirtual 449, 3) := by decide +kernel
theorem dX9_teach_128 : decode cX9_teach 128 = .ok (.goto 10, 3) := by decide +kernel
theorem dX9_teach_131 : decode cX9_teach 131 = .ok (.aload_n 0, 1) := by decide +kernel
theorem dX9_teach_132 : decode cX9_teach 132 = .ok (.getfield 13, 3) := by decide +kernel
theorem dX9_teach_135 : decode cX9_teach 135 = .ok (.iload 4, 2) := by decide +kernel
theorem dX9_teach_137 : decode cX9_teach 137 = .ok (.iaload, 1) := by decide +kernel
theorem dX9_teach_138 : decode cX9_teach 138 = .ok (.iastore, 1) := by decide +kernel
theorem dX9_teach_139 : decode cX9_teach 139 = .ok (.iinc 3 1, 3) := by decide +kernel
theorem dX9_teach_142 : decode cX9_teach 142 = .ok (.goto (-106), 3) := by decide +kernel
theorem dX9_teach_145 : decode cX9_teach 145 = .ok (.bipush 6, 2) := by decide +kernel
theorem dX9_teach_147 : decode cX9_teach 147 = .ok (.istore_n 3, 1) := by decide +kernel
theorem dX9_teach_148 : decode cX9_teach 148 = .ok (.iload_n 3, 1) := by decide +kernel
theorem dX9_teach_149 : decode cX9_teach 149 = .ok (.ifCond .lt 22, 3) := by decide +kernel
theorem dX9_teach_152 : decode cX9_teach 152 = .ok (.iload_n 1, 1) := by decide +kernel
theorem dX9_teach_153 : decode cX9_teach 153 = .ok (.iload_n 3, 1) := by decide +kernel
theorem dX9_teach_154 : decode cX9_teach 154 = .ok (.invokestatic 363, 3) := by decide +kernel
theorem dX9_teach_157 : decode cX9_teach 157 = .ok (.ifCond .eq 8, 3) := by decide +kernel
theorem dX9_teach_160 : decode cX9_teach 160 = .ok (.aload_n 0, 1) := by decide +kernel
theorem dX9_teach_161 : decode cX9_teach 161 = .ok (.iload_n 3, 1) := by decide +kernel
theorem dX9_teach_162 : decode cX9_teach 162 = .ok (.invokevirtual 437, 3) := by decide +kernel
theorem dX9_teach_165 : decode cX9_teach 165 = .ok (.iinc 3 (-1), 3) := by decide +kernel
theorem dX9_teach_168 : decode cX9_teach 168 = .ok (.goto (-20), 3) := by decide +kernel
theorem dX9_teach_171 : decode cX9_teach 171 = .ok (.aload_n 0, 1) := by decide +kernel
theorem dX9_teach_172 : decode cX9_teach 172 = .ok (.iload_n 2, 1) := by decide +kernel
theorem dX9_teach_173 : decode cX9_teach 173 = .ok (.invokevirtual 137, 3) := by decide +kernel
theorem dX9_teach_176 : decode cX9_teach 176 = .ok (.ireturn, 1) := by decide +kernel
def bX9_teach_0 (l : Launch) (E : Ev) (d : Nat) (Q : Option Value → Hp → Prop) : Kt := k_aload 0 (k_push (.int 0) (k_putI 9 55 0 (k_iload 1 (k_i2l (k_push (.long 0) (k_push (.int 1) (k_aload 0 (k_getR 9 55 3 (k_push (.int 8) (k_iaload (k_ishl (k_i2l (k_push (.long 1) (k_lsub (k_callS l E YX9_in d 0 0 3 (k_if_ne (k_push (.int 0) (k_istore 2 (k_push (.int 0) (k_istore 3 (Go l E YX9_teach (d + 1) 0 0 Q 0 0 36))))) (k_aload 0 (k_push (.int (-1)) (k_callV l E 9 55 YX9_tell d 0 0 1 (k_iret .int Q))))))))))))))))))))
set_option maxRecDepth 100000 in
set_option maxHeartbeats 4000000 in
theorem gX9_teach_0 {l : Launch} {E : Ev} {d : Nat} {Q : Option Value → Hp → Prop} {ls : Lv} {st : List Value} {h : Hp} (hB : bX9_teach_0 l E d Q ls st h) : Go l E YX9_teach (d + 1) 0 0 Q 0 0 0 ls st h :=
  (sd_aload_n (i := 0) rfl dX9_teach_0 (sd_iconst (v := 0) (by decide) dX9_teach_1 (sd_putI clsX9 (f := 0) (by decide) (fun _ _ _ => rfl) rfl (Or.inl rfl) mw_1178 dX9_teach_2 (sd_iload_n (i := 1) rfl dX9_teach_5 (sd_i2l dX9_teach_6 (sd_lconst (v := 0) (by decide) dX9_teach_7 (sd_iconst (v := 1) (by decide) dX9_teach_8 (sd_aload_n (i := 0) rfl dX9_teach_9 (sd_getR clsX9 (f := 3) (by decide) (fun _ _ _ => rfl) mw_1181 dX9_teach_10 (sd_bipush (v := 8) (by decide) dX9_teach_13 (sd_iaload dX9_teach_15 (sd_ishl dX9_teach_16 (sd_i2l dX9_teach_17 (sd_lconst (v := 1) (by decide) dX9_teach_18 (sd_lsub dX9_teach_19 (sd_callS (Y' := YX9_in) (mc' := 0) (ms' := 0) (n := 3) mw_1348 mw_1349 mw_108 mw_1350 (okmX9_in) (by decide) (Nat.le_refl _) (by decide) (by decide) dX9_teach_20 (sd_if_ne (tgt := 32) (by decide) dX9_teach_23 (sd_iconst (v := 0) (by decide) dX9_teach_32 (sd_istore_n (i := 2) rfl (by decide) dX9_teach_33 (sd_iconst (v := 0) (by decide) dX9_teach_34 (sd_istore_n (i := 3) rfl (by decide) dX9_teach_35 (Sd.go))))) (sd_aload_n (i := 0) rfl dX9_teach_26 (sd_iconst (v := (-1)) (by decide) dX9_teach_27 (sd_callV (Y' := YX9_tell) (mc' := 0) (ms' := 0) (n := 1) clsX9.1 mw_1351 mw_1353 mw_45 mw_108 mw_1354 rfl (okmX9_tell) (by decide) (Nat.le_refl _) (by decide) (by decide) dX9_teach_28 (sd_iret (ty := .int) rfl (by decide) (by decide) dX9_teach_31)))))))))))))))))))) : Sd l E YX9_teach (d + 1) 0 0 Q 0 0 0 (bX9_teach_0 l E d Q)) ls st h hB
def bX9_teach_36 (l : Launch) (E : Ev) (d : Nat) (Q : Option Value → Hp → Prop) : Kt := k_iload 3 (k_aload 0 (k_getR 9 55 3 (k_push (.int 8) (k_iaload (k_icmp_ge (k_push (.int 6) (k_istore 3 (Go l E YX9_teach (d + 1) 0 0 Q 0 0 148))) (k_iload 1 (k_iload 3 (k_callS l E YX9_is d 0 0 2 (k_if_eq (k_iinc 3 1 (Go l E YX9_teach (d + 1) 0 0 Q 0 0 36)) (k_push (.int 74) (k_push (.int 8) (k_aload 0 (k_iload 3 (k_push (.int 0) (k_callV l E 9 55 YX9_ofLesson d 0 0 2 (k_imul (k_iadd (k_aload 0 (k_iload 3 (k_push (.int 1) (k_callV l E 9 55 YX9_ofLesson d 0 0 2 (k_iadd (k_istore 4 (k_iload 2 (k_aload 0 (k_getR 9 55 3 (k_iload 4 (k_iaload (k_aload 0 (k_iload 3 (k_push (.int 2) (k_callV l E 9 55 YX9_ofLesson d 0 0 2 (k_icmp_ge (k_push (.int 0) (Go l E YX9_teach (d + 1) 0 0 Q 0 0 98)) (k_push (.int 1) (Go l E YX9_teach (d + 1) 0 0 Q 0 0 98)))))))))))))))))))))))))))))))))))
set_option maxRecDepth 100000 in
set_option maxHeartbeats 4000000 in
theorem gX9_teach_36 {l : Launch} {E : Ev} {d : Nat} {Q : Option Value → Hp → Prop} {ls : Lv} {st : List Value} {h : Hp} (hB : bX9_teach_36 l E d Q ls st h) : Go l E YX9_teach (d + 1) 0 0 Q 0 0 36 ls st h :=
  (sd_iload_n (i := 3) rfl dX9_teach_36 (sd_aload_n (i := 0) rfl dX9_teach_37 (sd_getR clsX9 (f := 3) (by decide) (fun _ _ _ => rfl) mw_1181 dX9_teach_38 (sd_bipush (v := 8) (by decide) dX9_teach_41 (sd_iaload dX9_teach_43 (sd_icmp_ge (tgt := 145) (by decide) dX9_teach_44 (sd_bipush (v := 6) (by decide) dX9_teach_145 (sd_istore_n (i := 3) rfl (by decide) dX9_teach_147 (Sd.go))) (sd_iload_n (i := 1) rfl dX9_teach_47 (sd_iload_n (i := 3) rfl dX9_teach_48 (sd_callS (Y' := YX9_is) (mc' := 0) (ms' := 0) (n := 2) mw_1603 mw_1604 mw_108 mw_1605 (okmX9_is) (by decide) (Nat.le_refl _) (by decide) (by decide) dX9_teach_49 (sd_if_eq (tgt := 139) (by decide) dX9_teach_52 (sd_iinc (i := 3) (v := 1) (by decide) (by decide) dX9_teach_139 (sd_goto (tgt := 36) (by decide) dX9_teach_142 (Sd.go))) (sd_bipush (v := 74) (by decide) dX9_teach_55 (sd_bipush (v := 8) (by decide) dX9_teach_57 (sd_aload_n (i := 0) rfl dX9_teach_59 (sd_iload_n (i := 3) rfl dX9_teach_60 (sd_iconst (v := 0) (by decide) dX9_teach_61 (sd_callV (Y' := YX9_ofLesson) (mc' := 0) (ms' := 0) (n := 2) clsX9.1 mw_1754 mw_1756 mw_97 mw_108 mw_1757 rfl (okmX9_ofLesson) (by decide) (Nat.le_refl _) (by decide) (by decide) dX9_teach_62 (sd_imul dX9_teach_65 (sd_iadd dX9_teach_66 (sd_aload_n (i := 0) rfl dX9_teach_67 (sd_iload_n (i := 3) rfl dX9_teach_68 (sd_iconst (v := 1) (by decide) dX9_teach_69 (sd_callV (Y' := YX9_ofLesson) (mc' := 0) (ms' := 0) (n := 2) clsX9.1 mw_1754 mw_1756 mw_97 mw_108 mw_1757 rfl (okmX9_ofLesson) (by decide) (Nat.le_refl _) (by decide) (by decide) dX9_teach_70 (sd_iadd dX9_teach_73 (sd_istore (i := 4) (by decide) dX9_teach_74 (sd_iload_n (i := 2) rfl dX9_teach_76 (sd_aload_n (i := 0) rfl dX9_teach_77 (sd_getR clsX9 (f := 3) (by decide) (fun _ _ _ => rfl) mw_1181 dX9_teach_78 (sd_iload (n := 4) dX9_teach_81 (sd_iaload dX9_teach_83 (sd_aload_n (i := 0) rfl dX9_teach_84 (sd_iload_n (i := 3) rfl dX9_teach_85 (sd_iconst (v := 2) (by decide) dX9_teach_86 (sd_callV (Y' := YX9_ofLesson) (mc' := 0) (ms' := 0) (n := 2) clsX9.1 mw_1754 mw_1756 mw_97 mw_108 mw_1757 rfl (okmX9_ofLesson) (by decide) (Nat.le_refl _) (by decide) (by decide) dX9_teach_87 (sd_icmp_ge (tgt := 97) (by decide) dX9_teach_90 (sd_iconst (v := 0) (by decide) dX9_teach_97 (Sd.go)) (sd_iconst (v := 1) (by decide) dX9_teach_93 (sd_goto (tgt := 98) (by decide) dX9_teach_94 (Sd.go)))))))))))))))))))))))))))))))))))) : Sd l E YX9_teach (d + 1) 0 0 Q 0 0 36 (bX9_teach_36 l E d Q)) ls st h hB
def bX9_teach_98 (l : Launch) (E : Ev) (d : Nat) (Q : Option Value → Hp → Prop) : Kt := k_iadd (k_istore 2 (k_aload 0 (k_getR 9 55 3 (k_iload 4 (k_aload 0 (k_getR 9 55 3 (k_iload 4 (k_iaload (k_aload 0 (k_iload 3 (k_push (.int 2) (k_callV l E 9 55 YX9_ofLesson d 0 0 2 (k_icmp_ge (k_aload 0 (k_getR 9 55 3 (k_iload 4 (k_iaload (k_iastore (k_iinc 3 1 (Go l E YX9_teach (d + 1) 0 0 Q 0 0 36))))))) (k_aload 0 (k_iload 3 (k_push (.int 2) (k_callV l E 9 55 YX9_ofLesson d 0 0 2 (k_iastore (k_iinc 3 1 (Go l E YX9_teach (d + 1) 0 0 Q 0 0 36))))))))))))))))))))
set_option maxRecDepth 100000 in
set_option maxHeartbeats 4000000 in
theorem gX9_teach_98 {l : Launch} {E : Ev} {d : Nat} {Q : Option Value → Hp → Prop} {ls : Lv} {st : List Value} {h : Hp} (hB : bX9_teach_98 l E d Q ls st h) : Go l E YX9_teach (d + 1) 0 0 Q 0 0 98 ls st h :=
  (sd_iadd dX9_teach_98 (sd_istore_n (i := 2) rfl (by decide) dX9_teach_99 (sd_aload_n (i := 0) rfl dX9_teach_100 (sd_getR clsX9 (f := 3) (by decide) (fun _ _ _ => rfl) mw_1181 dX9_teach_101 (sd_iload (n := 4) dX9_teach_104 (sd_aload_n (i := 0) rfl dX9_teach_106 (sd_getR clsX9 (f := 3) (by decide) (fun _ _ _ => rfl) mw_1181 dX9_teach_107 (sd_iload (n := 4) dX9_teach_110 (sd_iaload dX9_teach_112 (sd_aload_n (i := 0) rfl dX9_teach_113 (sd_iload_n (i := 3) rfl dX9_teach_114 (sd_iconst (v := 2) (by decide) dX9_teach_115 (sd_callV (Y' := YX9_ofLesson) (mc' := 0) (ms' := 0) (n := 2) clsX9.1 mw_1754 mw_1756 mw_97 mw_108 mw_1757 rfl (okmX9_ofLesson) (by decide) (Nat.le_refl _) (by decide) (by decide) dX9_teach_116 (sd_icmp_ge (tgt := 131) (by decide) dX9_teach_119 (sd_aload_n (i := 0) rfl dX9_teach_131 (sd_getR clsX9 (f := 3) (by decide) (fun _ _ _ => rfl) mw_1181 dX9_teach_132 (sd_iload (n := 4) dX9_teach_135 (sd_iaload dX9_teach_137 (sd_iastore dX9_teach_138 (sd_iinc (i := 3) (v := 1) (by decide) (by decide) dX9_teach_139 (sd_goto (tgt := 36) (by decide) dX9_teach_142 (Sd.go)))))))) (sd_aload_n (i := 0) rfl dX9_teach_122 (sd_iload_n (i := 3) rfl dX9_teach_123 (sd_iconst (v := 2) (by decide) dX9_teach_124 (sd_callV (Y' := YX9_ofLesson) (mc' := 0) (ms' := 0) (n := 2) clsX9.1 mw_1754 mw_1756 mw_97 mw_108 mw_1757 rfl (okmX9_ofLesson) (by decide) (Nat.le_refl _) (by decide) (by decide) dX9_teach_125 (sd_goto (tgt := 138) (by decide) dX9_teach_128 (sd_iastore dX9_teach_138 (sd_iinc (i := 3) (v := 1) (by decide) (by decide) dX9_teach_139 (sd_goto (tgt := 36) (by decide) dX9_teach_142 (Sd.go)))))))))))))))))))))) : Sd l E YX9_teach (d + 1) 0 0 Q 0 0 98 (bX9_teach_98 l E d Q)) ls st h hB
def bX9_teach_148 (l : Launch) (E : Ev) (d : Nat) (Q : Option Value → Hp → Prop) : Kt := k_iload 3 (k_if_lt (k_aload 0 (k_iload 2 (k_callV l E 9 55 YX9_tell d 0 0 1 (k_iret .int Q)))) (k_iload 1 (k_iload 3 (k_callS l E YX9_is d 0 0 2 (k_if_eq (k_iinc 3 (-1) (Go l E YX9_teach (d + 1) 0 0 Q 0 0 148)) (k_aload 0 (k_iload 3 (k_callV l E 9 55 YX9_out d 0 0 1 (k_iinc 3 (-1) (Go l E YX9_teach (d + 1) 0 0 Q 0 0 148))))))))))
set_option maxRecDepth 100000 in
set_option maxHeartbeats 4000000 in
theorem gX9_teach_148 {l : Launch} {E : Ev} {d : Nat} {Q : Option Value → Hp → Prop} {ls : Lv} {st : List Value} {h : Hp} (hB : bX9_teach_148 l E d Q ls st h) : Go l E YX9_teach (d + 1) 0 0 Q 0 0 148 ls st h :=
  (sd_iload_n (i := 3) rfl dX9_teach_148 (sd_if_lt (tgt := 171) (by decide) dX9_teach_149 (sd_aload_n (i := 0) rfl dX9_teach_171 (sd_iload_n (i := 2) rfl dX9_teach_172 (sd_callV (Y' := YX9_tell) (mc' := 0) (ms' := 0) (n := 1) clsX9.1 mw_1351 mw_1353 mw_45 mw_108 mw_1354 rfl (okmX9_tell) (by decide) (Nat.le_refl _) (by decide) (by decide) dX9_teach_173 (sd_iret (ty := .int) rfl (by decide) (by decide) dX9_teach_176)))) (sd_iload_n (i := 1) rfl dX9_teach_152 (sd_iload_n (i := 3) rfl dX9_teach_153 (sd_callS (Y' := YX9_is) (mc' := 0) (ms' := 0) (n := 2) mw_1603 mw_1604 mw_108 mw_1605 (okmX9_is) (by decide) (Nat.le_refl _) (by decide) (by decide) dX9_teach_154 (sd_if_eq (tgt := 165) (by decide) dX9_teach_157 (sd_iinc (i := 3) (v := (-1)) (by decide) (by decide) dX9_teach_165 (sd_goto (tgt := 148) (by decide) dX9_teach_168 (Sd.go))) (sd_aload_n (i := 0) rfl dX9_teach_160 (sd_iload_n (i := 3) rfl dX9_teach_161 (sd_callV (Y' := YX9_out) (mc' := 0) (ms' := 0) (n := 1) clsX9.1 mw_1742 mw_1744 mw_95 mw_108 mw_1745 rfl (okmX9_out) (by decide) (Nat.le_refl _) (by decide) (by decide) dX9_teach_162 (sd_iinc (i := 3) (v := (-1)) (by decide) (by decide) dX9_teach_165 (sd_goto (tgt := 148) (by decide) dX9_teach_168 (Sd.go))))))))))) : Sd l E YX9_teach (d + 1) 0 0 Q 0 0 148 (bX9_teach_148 l E d Q)) ls st h hB
theorem eX9_teach {l : Launch} {E : Ev} {d : Nat} {Q : Option Value → Hp → Prop} {h : Hp} {a0 : Nat} {x1 : Int32} (hk : Go l E YX9_teach d 0 0 Q 0 0 0 [some (.ref a0), some (.int x1), none, none, none] [] h) : GoM l E YX9_teach d 0 0 [.ref a0, .int x1] h Q := GoM.of (by decide +kernel) rfl (by simp [entA, YX9_teach]) hk
