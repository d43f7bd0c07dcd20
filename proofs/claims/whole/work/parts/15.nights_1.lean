theorem dX3_meanFrom_0 : decode cX3_meanFrom 0 = .ok (.iload_n 1, 1) := by decide +kernel
theorem dX3_meanFrom_1 : decode cX3_meanFrom 1 = .ok (.aload_n 0, 1) := by decide +kernel
theorem dX3_meanFrom_2 : decode cX3_meanFrom 2 = .ok (.getfield 26, 3) := by decide +kernel
theorem dX3_meanFrom_5 : decode cX3_meanFrom 5 = .ok (.getfield 78, 3) := by decide +kernel
theorem dX3_meanFrom_8 : decode cX3_meanFrom 8 = .ok (.if_icmp .lt 47, 3) := by decide +kernel
theorem dX3_meanFrom_11 : decode cX3_meanFrom 11 = .ok (.aload_n 0, 1) := by decide +kernel
theorem dX3_meanFrom_12 : decode cX3_meanFrom 12 = .ok (.getfield 9, 3) := by decide +kernel
theorem dX3_meanFrom_15 : decode cX3_meanFrom 15 = .ok (.aload_n 0, 1) := by decide +kernel
theorem dX3_meanFrom_16 : decode cX3_meanFrom 16 = .ok (.getfield 26, 3) := by decide +kernel
theorem dX3_meanFrom_19 : decode cX3_meanFrom 19 = .ok (.getfield 78, 3) := by decide +kernel
theorem dX3_meanFrom_22 : decode cX3_meanFrom 22 = .ok (.sipush 256, 3) := by decide +kernel
theorem dX3_meanFrom_25 : decode cX3_meanFrom 25 = .ok (.imul, 1) := by decide +kernel
theorem dX3_meanFrom_26 : decode cX3_meanFrom 26 = .ok (.aload_n 0, 1) := by decide +kernel
theorem dX3_meanFrom_27 : decode cX3_meanFrom 27 = .ok (.getfield 63, 3) := by decide +kernel
theorem dX3_meanFrom_30 : decode cX3_meanFrom 30 = .ok (.iadd, 1) := by decide +kernel
theorem dX3_meanFrom_31 : decode cX3_meanFrom 31 = .ok (.laload, 1) := by decide +kernel
theorem dX3_meanFrom_32 : decode cX3_meanFrom 32 = .ok (.lstore 5, 2) := by decide +kernel
theorem dX3_meanFrom_34 : decode cX3_meanFrom 34 = .ok (.lload 5, 2) := by decide +kernel
theorem dX3_meanFrom_36 : decode cX3_meanFrom 36 = .ok (.invokestatic 32, 3) := by decide +kernel
theorem dX3_meanFrom_39 : decode cX3_meanFrom 39 = .ok (.ifCond .eq 7, 3) := by decide +kernel
theorem dX3_meanFrom_42 : decode cX3_meanFrom 42 = .ok (.lconst 0, 1) := by decide +kernel
theorem dX3_meanFrom_43 : decode cX3_meanFrom 43 = .ok (.goto 11, 3) := by decide +kernel
theorem dX3_meanFrom_46 : decode cX3_meanFrom 46 = .ok (.lload_n 2, 1) := by decide +kernel
theorem dX3_meanFrom_47 : decode cX3_meanFrom 47 = .ok (.lload 5, 2) := by decide +kernel
theorem dX3_meanFrom_49 : decode cX3_meanFrom 49 = .ok (.invokestatic 143, 3) := by decide +kernel
theorem dX3_meanFrom_52 : decode cX3_meanFrom 52 = .ok (.i2l, 1) := by decide +kernel
theorem dX3_meanFrom_53 : decode cX3_meanFrom 53 = .ok (.lmul, 1) := by decide +kernel
theorem dX3_meanFrom_54 : decode cX3_meanFrom 54 = .ok (.lreturn, 1) := by decide +kernel
theorem dX3_meanFrom_55 : decode cX3_meanFrom 55 = .ok (.aload 4, 2) := by decide +kernel
theorem dX3_meanFrom_57 : decode cX3_meanFrom 57 = .ok (.getfield 147, 3) := by decide +kernel
theorem dX3_meanFrom_60 : decode cX3_meanFrom 60 = .ok (.iload_n 1, 1) := by decide +kernel
theorem dX3_meanFrom_61 : decode cX3_meanFrom 61 = .ok (.iconst 4, 1) := by decide +kernel
theorem dX3_meanFrom_62 : decode cX3_meanFrom 62 = .ok (.imul, 1) := by decide +kernel
theorem dX3_meanFrom_63 : decode cX3_meanFrom 63 = .ok (.iconst 3, 1) := by decide +kernel
theorem dX3_meanFrom_64 : decode cX3_meanFrom 64 = .ok (.iadd, 1) := by decide +kernel
theorem dX3_meanFrom_65 : decode cX3_meanFrom 65 = .ok (.iaload, 1) := by decide +kernel
theorem dX3_meanFrom_66 : decode cX3_meanFrom 66 = .ok (.istore 5, 2) := by decide +kernel
theorem dX3_meanFrom_68 : decode cX3_meanFrom 68 = .ok (.lconst 0, 1) := by decide +kernel
theorem dX3_meanFrom_69 : decode cX3_meanFrom 69 = .ok (.lstore 6, 2) := by decide +kernel
theorem dX3_meanFrom_71 : decode cX3_meanFrom 71 = .ok (.aload_n 0, 1) := by decide +kernel
theorem dX3_meanFrom_72 : decode cX3_meanFrom 72 = .ok (.iload_n 1, 1) := by decide +kernel
theorem dX3_meanFrom_73 : decode cX3_meanFrom 73 = .ok (.invokevirtual 81, 3) := by decide +kernel
theorem dX3_meanFrom_76 : decode cX3_meanFrom 76 = .ok (.iload 5, 2) := by decide +kernel
theorem dX3_meanFrom_78 : decode cX3_meanFrom 78 = .ok (.ifCond .le 22, 3) := by decide +kernel
theorem dX3_meanFrom_81 : decode cX3_meanFrom 81 = .ok (.lload 6, 2) := by decide +kernel
theorem dX3_meanFrom_83 : decode cX3_meanFrom 83 = .ok (.aload_n 0, 1) := by decide +kernel
theorem dX3_meanFrom_84 : decode cX3_meanFrom 84 = .ok (.iload_n 1, 1) := by decide +kernel
theorem dX3_meanFrom_85 : decode cX3_meanFrom 85 = .ok (.iconst 1, 1) := by decide +kernel
theorem dX3_meanFrom_86 : decode cX3_meanFrom 86 = .ok (.iadd, 1) := by decide +kernel
theorem dX3_meanFrom_87 : decode cX3_meanFrom 87 = .ok (.lload_n 2, 1) := by decide +kernel
theorem dX3_meanFrom_88 : decode cX3_meanFrom 88 = .ok (.iload 5, 2) := by decide +kernel
theorem dX3_meanFrom_90 : decode cX3_meanFrom 90 = .ok (.i2l, 1) := by decide +kernel
theorem dX3_meanFrom_91 : decode cX3_meanFrom 91 = .ok (.lmul, 1) := by decide +kernel
theorem dX3_meanFrom_92 : decode cX3_meanFrom 92 = .ok (.aload 4, 2) := by decide +kernel
theorem dX3_meanFrom_94 : decode cX3_meanFrom 94 = .ok (.invokevirtual 139, 3) := by decide +kernel
theorem dX3_meanFrom_97 : decode cX3_meanFrom 97 = .ok (.ladd, 1) := by decide +kernel
theorem dX3_meanFrom_98 : decode cX3_meanFrom 98 = .ok (.lstore 6, 2) := by decide +kernel
theorem dX3_meanFrom_100 : decode cX3_meanFrom 100 = .ok (.iload 5, 2) := by decide +kernel
theorem dX3_meanFrom_102 : decode cX3_meanFrom 102 = .ok (.bipush 100, 2) := by decide +kernel
theorem dX3_meanFrom_104 : decode cX3_meanFrom 104 = .ok (.if_icmp .ge 30, 3) := by decide +kernel
theorem dX3_meanFrom_107 : decode cX3_meanFrom 107 = .ok (.aload_n 0, 1) := by decide +kernel
theorem dX3_meanFrom_108 : decode cX3_meanFrom 108 = .ok (.iload_n 1, 1) := by decide +kernel
theorem dX3_meanFrom_109 : decode cX3_meanFrom 109 = .ok (.invokevirtual 85, 3) := by decide +kernel
theorem dX3_meanFrom_112 : decode cX3_meanFrom 112 = .ok (.lload 6, 2) := by decide +kernel
theorem dX3_meanFrom_114 : decode cX3_meanFrom 114 = .ok (.aload_n 0, 1) := by decide +kernel
theorem dX3_meanFrom_115 : decode cX3_meanFrom 115 = .ok (.iload_n 1, 1) := by decide +kernel
theorem dX3_meanFrom_116 : decode cX3_meanFrom 116 = .ok (.iconst 1, 1) := by decide +kernel
theorem dX3_meanFrom_117 : decode cX3_meanFrom 117 = .ok (.iadd, 1) := by decide +kernel
theorem dX3_meanFrom_118 : decode cX3_meanFrom 118 = .ok (.lload_n 2, 1) := by decide +kernel
theorem dX3_meanFrom_119 : decode cX3_meanFrom 119 = .ok (.bipush 100, 2) := by decide +kernel
theorem dX3_meanFrom_121 : decode cX3_meanFrom 121 = .ok (.iload 5, 2) := by decide +kernel
theorem dX3_meanFrom_123 : decode cX3_meanFrom 123 = .ok (.isub, 1) := by decide +kernel
theorem dX3_meanFrom_124 : decode cX3_meanFrom 124 = .ok (.i2l, 1) := by decide +kernel
theorem dX3_meanFrom_125 : decode cX3_meanFrom 125 = .ok (.lmul, 1) := by decide +kernel
theorem dX3_meanFrom_126 : decode cX3_meanFrom 126 = .ok (.aload 4, 2) := by decide +kernel
theorem dX3_meanFrom_128 : decode cX3_meanFrom 128 = .ok (.invokevirtual 139, 3) := by decide +kernel
theorem dX3_meanFrom_131 : decode cX3_meanFrom 131 = .ok (.ladd, 1) := by decide +kernel
theorem dX3_meanFrom_132 : decode cX3_meanFrom 132 = .ok (.lstore 6, 2) := by decide +kernel
theorem dX3_meanFrom_134 : decode cX3_meanFrom 134 = .ok (.lload 6, 2) := by decide +kernel
theorem dX3_meanFrom_136 : decode cX3_meanFrom 136 = .ok (.lreturn, 1) := by decide +kernel
def bX3_meanFrom_0 (l : Launch) (E : Ev) (d : Nat) (Q : Option Value → Hp → Prop) : Kt := k_iload 1 (k_aload 0 (k_getR 3 10 2 (k_getI 0 7 0 (k_icmp_lt (k_aload 4 (k_getR 7 15 2 (k_iload 1 (k_push (.int 4) (k_imul (k_push (.int 3) (k_iadd (k_iaload (k_istore 5 (k_push (.long 0) (k_lstore 6 (k_aload 0 (k_iload 1 (k_callV l E 3 10 YX3_rest d 0 0 1 (k_iload 5 (k_if_le (Go l E YX3_meanFrom (d + 1) 0 0 Q 0 0 100) (k_lload 6 (k_aload 0 (k_iload 1 (k_push (.int 1) (k_iadd (k_lload 2 (k_iload 5 (k_i2l (k_lmul (k_aload 4 (k_callV l E 3 10 YX3_meanFrom d 0 0 3 (k_ladd (k_lstore 6 (Go l E YX3_meanFrom (d + 1) 0 0 Q 0 0 100)))))))))))))))))))))))))))))) (k_aload 0 (k_getR 3 10 0 (k_aload 0 (k_getR 3 10 2 (k_getI 0 7 0 (k_push (.int 256) (k_imul (k_aload 0 (k_getI 3 10 4 (k_iadd (k_laload (k_lstore 5 (k_lload 5 (k_callS l E YX3_isNone d 0 0 1 (k_if_eq (k_lload 2 (k_lload 5 (k_callS l E YX3_costIn d 0 0 1 (k_i2l (k_lmul (k_lret Q)))))) (k_push (.long 0) (k_lret Q)))))))))))))))))))))
set_option maxRecDepth 100000 in
set_option maxHeartbeats 4000000 in
theorem gX3_meanFrom_0 {l : Launch} {E : Ev} {d : Nat} {Q : Option Value → Hp → Prop} {ls : Lv} {st : List Value} {h : Hp} (hB : bX3_meanFrom_0 l E d Q ls st h) : Go l E YX3_meanFrom (d + 1) 0 0 Q 0 0 0 ls st h :=
  (sd_iload_n (i := 1) rfl dX3_meanFrom_0 (sd_aload_n (i := 0) rfl dX3_meanFrom_1 (sd_getR clsX3 (f := 2) (by decide) (fun _ _ _ => rfl) mw_310 dX3_meanFrom_2 (sd_getI clsX0 (f := 0) (by decide) (fun _ _ _ => rfl) mw_269 dX3_meanFrom_5 (sd_icmp_lt (tgt := 55) (by decide) dX3_meanFrom_8 (sd_aload (n := 4) dX3_meanFrom_55 (sd_getR clsX7 (f := 2) (by decide) (fun _ _ _ => rfl) mw_149 dX3_meanFrom_57 (sd_iload_n (i := 1) rfl dX3_meanFrom_60 (sd_iconst (v := 4) (by decide) dX3_meanFrom_61 (sd_imul dX3_meanFrom_62 (sd_iconst (v := 3) (by decide) dX3_meanFrom_63 (sd_iadd dX3_meanFrom_64 (sd_iaload dX3_meanFrom_65 (sd_istore (i := 5) (by decide) dX3_meanFrom_66 (sd_lconst (v := 0) (by decide) dX3_meanFrom_68 (sd_lstore (i := 6) (by decide) dX3_meanFrom_69 (sd_aload_n (i := 0) rfl dX3_meanFrom_71 (sd_iload_n (i := 1) rfl dX3_meanFrom_72 (sd_callV (Y' := YX3_rest) (mc' := 0) (ms' := 0) (n := 1) clsX3.1 mw_816 mw_818 mw_19 mw_104 mw_819 rfl (okmX3_rest) (by decide) (Nat.le_refl _) (by decide) (by decide) dX3_meanFrom_73 (sd_iload (n := 5) dX3_meanFrom_76 (sd_if_le (tgt := 100) (by decide) dX3_meanFrom_78 (Sd.go) (sd_lload (n := 6) dX3_meanFrom_81 (sd_aload_n (i := 0) rfl dX3_meanFrom_83 (sd_iload_n (i := 1) rfl dX3_meanFrom_84 (sd_iconst (v := 1) (by decide) dX3_meanFrom_85 (sd_iadd dX3_meanFrom_86 (sd_lload_n (i := 2) rfl dX3_meanFrom_87 (sd_iload (n := 5) dX3_meanFrom_88 (sd_i2l dX3_meanFrom_90 (sd_lmul dX3_meanFrom_91 (sd_aload (n := 4) dX3_meanFrom_92 (sd_callV (Y' := YX3_meanFrom) (mc' := 0) (ms' := 0) (n := 3) clsX3.1 mw_1028 mw_1030 mw_40 mw_104 mw_1031 rfl (okmX3_meanFrom) (by decide) (Nat.le_refl _) (by decide) (by decide) dX3_meanFrom_94 (sd_ladd dX3_meanFrom_97 (sd_lstore (i := 6) (by decide) dX3_meanFrom_98 (Sd.go)))))))))))))))))))))))))))))) (sd_aload_n (i := 0) rfl dX3_meanFrom_11 (sd_getR clsX3 (f := 0) (by decide) (fun _ _ _ => rfl) mw_308 dX3_meanFrom_12 (sd_aload_n (i := 0) rfl dX3_meanFrom_15 (sd_getR clsX3 (f := 2) (by decide) (fun _ _ _ => rfl) mw_310 dX3_meanFrom_16 (sd_getI clsX0 (f := 0) (by decide) (fun _ _ _ => rfl) mw_269 dX3_meanFrom_19 (sd_sipush (v := 256) (by decide) dX3_meanFrom_22 (sd_imul dX3_meanFrom_25 (sd_aload_n (i := 0) rfl dX3_meanFrom_26 (sd_getI clsX3 (f := 4) (by decide) (fun _ _ _ => rfl) mw_312 dX3_meanFrom_27 (sd_iadd dX3_meanFrom_30 (sd_laload dX3_meanFrom_31 (sd_lstore (i := 5) (by decide) dX3_meanFrom_32 (sd_lload (n := 5) dX3_meanFrom_34 (sd_callS (Y' := YX3_isNone) (mc' := 0) (ms' := 0) (n := 1) mw_895 mw_896 mw_104 mw_897 (okmX3_isNone) (by decide) (Nat.le_refl _) (by decide) (by decide) dX3_meanFrom_36 (sd_if_eq (tgt := 46) (by decide) dX3_meanFrom_39 (sd_lload_n (i := 2) rfl dX3_meanFrom_46 (sd_lload (n := 5) dX3_meanFrom_47 (sd_callS (Y' := YX3_costIn) (mc' := 0) (ms' := 0) (n := 1) mw_1032 mw_893 mw_104 mw_894 (okmX3_costIn) (by decide) (Nat.le_refl _) (by decide) (by decide) dX3_meanFrom_49 (sd_i2l dX3_meanFrom_52 (sd_lmul dX3_meanFrom_53 (sd_lret rfl (by decide) (by decide) dX3_meanFrom_54)))))) (sd_lconst (v := 0) (by decide) dX3_meanFrom_42 (sd_goto (tgt := 54) (by decide) dX3_meanFrom_43 (sd_lret rfl (by decide) (by decide) dX3_meanFrom_54)))))))))))))))))))))) : Sd l E YX3_meanFrom (d + 1) 0 0 Q 0 0 0 (bX3_meanFrom_0 l E d Q)) ls st h hB
def bX3_meanFrom_100 (l : Launch) (E : Ev) (d : Nat) (Q : Option Value → Hp → Prop) : Kt := k_iload 5 (k_push (.int 100) (k_icmp_ge (k_lload 6 (k_lret Q)) (k_aload 0 (k_iload 1 (k_callV l E 3 10 YX3_play d 0 0 1 (k_lload 6 (k_aload 0 (k_iload 1 (k_push (.int 1) (k_iadd (k_lload 2 (k_push (.int 100) (k_iload 5 (k_isub (k_i2l (k_lmul (k_aload 4 (k_callV l E 3 10 YX3_meanFrom d 0 0 3 (k_ladd (k_lstore 6 (k_lload 6 (k_lret Q))))))))))))))))))))))
set_option maxRecDepth 100000 in
set_option maxHeartbeats 4000000 in
theorem gX3_meanFrom_100 {l : Launch} {E : Ev} {d : Nat} {Q : Option Value → Hp → Prop} {ls : Lv} {st : List Value} {h : Hp} (hB : bX3_meanFrom_100 l E d Q ls st h) : Go l E YX3_meanFrom (d + 1) 0 0 Q 0 0 100 ls st h :=
  (sd_iload (n := 5) dX3_meanFrom_100 (sd_bipush (v := 100) (by decide) dX3_meanFrom_102 (sd_icmp_ge (tgt := 134) (by decide) dX3_meanFrom_104 (sd_lload (n := 6) dX3_meanFrom_134 (sd_lret rfl (by decide) (by decide) dX3_meanFrom_136)) (sd_aload_n (i := 0) rfl dX3_meanFrom_107 (sd_iload_n (i := 1) rfl dX3_meanFrom_108 (sd_callV (Y' := YX3_play) (mc' := 0) (ms' := 0) (n := 1) clsX3.1 mw_821 mw_823 mw_20 mw_104 mw_824 rfl (okmX3_play) (by decide) (Nat.le_refl _) (by decide) (by decide) dX3_meanFrom_109 (sd_lload (n := 6) dX3_meanFrom_112 (sd_aload_n (i := 0) rfl dX3_meanFrom_114 (sd_iload_n (i := 1) rfl dX3_meanFrom_115 (sd_iconst (v := 1) (by decide) dX3_meanFrom_116 (sd_iadd dX3_meanFrom_117 (sd_lload_n (i := 2) rfl dX3_meanFrom_118 (sd_bipush (v := 100) (by decide) dX3_meanFrom_119 (sd_iload (n := 5) dX3_meanFrom_121 (sd_isub dX3_meanFrom_123 (sd_i2l dX3_meanFrom_124 (sd_lmul dX3_meanFrom_125 (sd_aload (n := 4) dX3_meanFrom_126 (sd_callV (Y' := YX3_meanFrom) (mc' := 0) (ms' := 0) (n := 3) clsX3.1 mw_1028 mw_1030 mw_40 mw_104 mw_1031 rfl (okmX3_meanFrom) (by decide) (Nat.le_refl _) (by decide) (by decide) dX3_meanFrom_128 (sd_ladd dX3_meanFrom_131 (sd_lstore (i := 6) (by decide) dX3_meanFrom_132 (sd_lload (n := 6) dX3_meanFrom_134 (sd_lret rfl (by decide) (by decide) dX3_meanFrom_136)))))))))))))))))))))) : Sd l E YX3_meanFrom (d + 1) 0 0 Q 0 0 100 (bX3_meanFrom_100 l E d Q)) ls st h hB
theorem eX3_meanFrom {l : Launch} {E : Ev} {d : Nat} {Q : Option Value → Hp → Prop} {h : Hp} {a0 : Nat} {x1 : Int32} {x2 : Int64} {x3 : Nat} (hk : Go l E YX3_meanFrom d 0 0 Q 0 0 0 [some (.ref a0), some (.int x1), some (.long x2), none, some (.ref x3), none, none, none] [] h) : GoM l E YX3_meanFrom d 0 0 [.ref a0, .int x1, .long x2, .ref x3] h Q := GoM.of (by decide +kernel) rfl (by simp [entA, YX3_meanFrom]) hk
