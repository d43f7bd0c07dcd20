theorem dX4_init_0 : decode cX4_init 0 = .ok (.aload_n 0, 1) := by decide +kernel
theorem dX4_init_1 : decode cX4_init 1 = .ok (.invokespecial 3, 3) := by decide +kernel
theorem dX4_init_4 : decode cX4_init 4 = .ok (.aload_n 0, 1) := by decide +kernel
theorem dX4_init_5 : decode cX4_init 5 = .ok (.sipush 512, 3) := by decide +kernel
theorem dX4_init_8 : decode cX4_init 8 = .ok (.newarray .boolean, 2) := by decide +kernel
theorem dX4_init_10 : decode cX4_init 10 = .ok (.putfield 9, 3) := by decide +kernel
theorem dX4_init_13 : decode cX4_init 13 = .ok (.aload_n 0, 1) := by decide +kernel
theorem dX4_init_14 : decode cX4_init 14 = .ok (.sipush 128, 3) := by decide +kernel
theorem dX4_init_17 : decode cX4_init 17 = .ok (.newarray .int, 2) := by decide +kernel
theorem dX4_init_19 : decode cX4_init 19 = .ok (.putfield 15, 3) := by decide +kernel
theorem dX4_init_22 : decode cX4_init 22 = .ok (.aload_n 0, 1) := by decide +kernel
theorem dX4_init_23 : decode cX4_init 23 = .ok (.bipush 64, 2) := by decide +kernel
theorem dX4_init_25 : decode cX4_init 25 = .ok (.newarray .int, 2) := by decide +kernel
theorem dX4_init_27 : decode cX4_init 27 = .ok (.putfield 19, 3) := by decide +kernel
theorem dX4_init_30 : decode cX4_init 30 = .ok (.aload_n 0, 1) := by decide +kernel
theorem dX4_init_31 : decode cX4_init 31 = .ok (.bipush 8, 2) := by decide +kernel
theorem dX4_init_33 : decode cX4_init 33 = .ok (.newarray .int, 2) := by decide +kernel
theorem dX4_init_35 : decode cX4_init 35 = .ok (.putfield 22, 3) := by decide +kernel
theorem dX4_init_38 : decode cX4_init 38 = .ok (.return_, 1) := by decide +kernel
def bX4_init_0 (l : Launch) (E : Ev) (d : Nat) (Q : Option Value → Hp → Prop) : Kt := k_aload 0 (k_objInit (k_aload 0 (k_push (.int 512) (k_newarr 3 512 (k_putR 4 5 0 (k_aload 0 (k_push (.int 128) (k_newarr 1 128 (k_putR 4 5 1 (k_aload 0 (k_push (.int 64) (k_newarr 1 64 (k_putR 4 5 2 (k_aload 0 (k_push (.int 8) (k_newarr 1 8 (k_putR 4 5 3 (k_vret Q))))))))))))))))))
set_option maxRecDepth 100000 in
set_option maxHeartbeats 4000000 in
theorem gX4_init_0 {l : Launch} {E : Ev} {d : Nat} {Q : Option Value → Hp → Prop} {ls : Lv} {st : List Value} {h : Hp} (hB : bX4_init_0 l E d Q ls st h) : Go l E YX4_init (d + 1) 4 712 Q 0 0 0 ls st h :=
  (sd_aload_n (i := 0) rfl dX4_init_0 (sd_objInit mw_378 mw_125 mw_126 (by omega) dX4_init_1 (sd_aload_n (i := 0) rfl dX4_init_4 (sd_sipush (v := 512) (by decide) dX4_init_5 (sd_newarr (at' := .boolean) (ki := 3) (B := 512) (by decide) mw_260 (by decide) (by decide) (by decide) dX4_init_8 (sd_putR clsX4 (f := 0) (by decide) (fun _ _ _ => rfl) rfl (Or.inr ⟨rfl, rfl, rfl⟩) mw_379 dX4_init_10 (sd_aload_n (i := 0) rfl dX4_init_13 (sd_sipush (v := 128) (by decide) dX4_init_14 (sd_newarr (at' := .int) (ki := 1) (B := 128) (by decide) mw_214 (by decide) (by decide) (by decide) dX4_init_17 (sd_putR clsX4 (f := 1) (by decide) (fun _ _ _ => rfl) rfl (Or.inr ⟨rfl, rfl, rfl⟩) mw_381 dX4_init_19 (sd_aload_n (i := 0) rfl dX4_init_22 (sd_bipush (v := 64) (by decide) dX4_init_23 (sd_newarr (at' := .int) (ki := 1) (B := 64) (by decide) mw_214 (by decide) (by decide) (by decide) dX4_init_25 (sd_putR clsX4 (f := 2) (by decide) (fun _ _ _ => rfl) rfl (Or.inr ⟨rfl, rfl, rfl⟩) mw_382 dX4_init_27 (sd_aload_n (i := 0) rfl dX4_init_30 (sd_bipush (v := 8) (by decide) dX4_init_31 (sd_newarr (at' := .int) (ki := 1) (B := 8) (by decide) mw_214 (by decide) (by decide) (by decide) dX4_init_33 (sd_putR clsX4 (f := 3) (by decide) (fun _ _ _ => rfl) rfl (Or.inr ⟨rfl, rfl, rfl⟩) mw_383 dX4_init_35 (sd_vret rfl (by decide) (by decide) dX4_init_38)))))))))))))))))) : Sd l E YX4_init (d + 1) 4 712 Q 0 0 0 (bX4_init_0 l E d Q)) ls st h hB
theorem eX4_init {l : Launch} {E : Ev} {d : Nat} {Q : Option Value → Hp → Prop} {h : Hp} {a0 : Nat} (hk : Go l E YX4_init d 4 712 Q 0 0 0 [some (.ref a0)] [] h) : GoM l E YX4_init d 4 712 [.ref a0] h Q := GoM.of (by decide +kernel) rfl (by simp [entA, YX4_init]) hk
theorem dX4_begin_0 : decode cX4_begin 0 = .ok (.aload_n 2, 1) := by decide +kernel
theorem dX4_begin_1 : decode cX4_begin 1 = .ok (.getfield 25, 3) := by decide +kernel
theorem dX4_begin_4 : decode cX4_begin 4 = .ok (.iconst 0, 1) := by decide +kernel
theorem dX4_begin_5 : decode cX4_begin 5 = .ok (.aload_n 0, 1) := by decide +kernel
theorem dX4_begin_6 : decode cX4_begin 6 = .ok (.getfield 22, 3) := by decide +kernel
theorem dX4_begin_9 : decode cX4_begin 9 = .ok (.iconst 0, 1) := by decide +kernel
theorem dX4_begin_10 : decode cX4_begin 10 = .ok (.bipush 8, 2) := by decide +kernel
theorem dX4_begin_12 : decode cX4_begin 12 = .ok (.invokestatic 30, 3) := by decide +kernel
theorem dX4_begin_15 : decode cX4_begin 15 = .ok (.aload_n 0, 1) := by decide +kernel
theorem dX4_begin_16 : decode cX4_begin 16 = .ok (.iconst 1, 1) := by decide +kernel
theorem dX4_begin_17 : decode cX4_begin 17 = .ok (.aload_n 1, 1) := by decide +kernel
theorem dX4_begin_18 : decode cX4_begin 18 = .ok (.getfield 36, 3) := by decide +kernel
theorem dX4_begin_21 : decode cX4_begin 21 = .ok (.ishl, 1) := by decide +kernel
theorem dX4_begin_22 : decode cX4_begin 22 = .ok (.putfield 42, 3) := by decide +kernel
theorem dX4_begin_25 : decode cX4_begin 25 = .ok (.return_, 1) := by decide +kernel
def bX4_begin_0 (l : Launch) (E : Ev) (d : Nat) (Q : Option Value → Hp → Prop) : Kt := k_aload 2 (k_getR 0 7 2 (k_push (.int 0) (k_aload 0 (k_getR 4 5 3 (k_push (.int 0) (k_push (.int 8) (k_copyI (k_aload 0 (k_push (.int 1) (k_aload 1 (k_getI 7 15 12 (k_ishl (k_putI 4 5 4 (k_vret Q))))))))))))))
set_option maxRecDepth 100000 in
set_option maxHeartbeats 4000000 in
theorem gX4_begin_0 {l : Launch} {E : Ev} {d : Nat} {Q : Option Value → Hp → Prop} {ls : Lv} {st : List Value} {h : Hp} (hB : bX4_begin_0 l E d Q ls st h) : Go l E YX4_begin (d + 1) 0 0 Q 0 0 0 ls st h :=
  (sd_aload_n (i := 2) rfl dX4_begin_0 (sd_getR clsX0 (f := 2) (by decide) (fun _ _ _ => rfl) mw_274 dX4_begin_1 (sd_iconst (v := 0) (by decide) dX4_begin_4 (sd_aload_n (i := 0) rfl dX4_begin_5 (sd_getR clsX4 (f := 3) (by decide) (fun _ _ _ => rfl) mw_383 dX4_begin_6 (sd_iconst (v := 0) (by decide) dX4_begin_9 (sd_bipush (v := 8) (by decide) dX4_begin_10 (sd_copyI mw_1059 mw_744 mw_743 mw_116 (by omega) dX4_begin_12 (sd_aload_n (i := 0) rfl dX4_begin_15 (sd_iconst (v := 1) (by decide) dX4_begin_16 (sd_aload_n (i := 1) rfl dX4_begin_17 (sd_getI clsX7 (f := 12) (by decide) (fun _ _ _ => rfl) mw_176 dX4_begin_18 (sd_ishl dX4_begin_21 (sd_putI clsX4 (f := 4) (by decide) (fun _ _ _ => rfl) rfl (Or.inl rfl) mw_384 dX4_begin_22 (sd_vret rfl (by decide) (by decide) dX4_begin_25)))))))))))))) : Sd l E YX4_begin (d + 1) 0 0 Q 0 0 0 (bX4_begin_0 l E d Q)) ls st h hB
theorem eX4_begin {l : Launch} {E : Ev} {d : Nat} {Q : Option Value → Hp → Prop} {h : Hp} {a0 : Nat} {x1 : Nat} {x2 : Nat} (hk : Go l E YX4_begin d 0 0 Q 0 0 0 [some (.ref a0), some (.ref x1), some (.ref x2)] [] h) : GoM l E YX4_begin d 0 0 [.ref a0, .ref x1, .ref x2] h Q := GoM.of (by decide +kernel) rfl (by simp [entA, YX4_begin]) hk
theorem dX4_tryOut_0 : decode cX4_tryOut 0 = .ok (.aload_n 1, 1) := by decide +kernel
theorem dX4_tryOut_1 : decode cX4_tryOut 1 = .ok (.getfield 45, 3) := by decide +kernel
theorem dX4_tryOut_4 : decode cX4_tryOut 4 = .ok (.iconst 0, 1) := by decide +kernel
theorem dX4_tryOut_5 : decode cX4_tryOut 5 = .ok (.aload_n 0, 1) := by decide +kernel
theorem dX4_tryOut_6 : decode cX4_tryOut 6 = .ok (.getfield 19, 3) := by decide +kernel
theorem dX4_tryOut_9 : decode cX4_tryOut 9 = .ok (.iconst 0, 1) := by decide +kernel
theorem dX4_tryOut_10 : decode cX4_tryOut 10 = .ok (.bipush 64, 2) := by decide +kernel
theorem dX4_tryOut_12 : decode cX4_tryOut 12 = .ok (.invokestatic 30, 3) := by decide +kernel
theorem dX4_tryOut_15 : decode cX4_tryOut 15 = .ok (.aload_n 0, 1) := by decide +kernel
theorem dX4_tryOut_16 : decode cX4_tryOut 16 = .ok (.getfield 22, 3) := by decide +kernel
theorem dX4_tryOut_19 : decode cX4_tryOut 19 = .ok (.iconst 0, 1) := by decide +kernel
theorem dX4_tryOut_20 : decode cX4_tryOut 20 = .ok (.aload_n 3, 1) := by decide +kernel
theorem dX4_tryOut_21 : decode cX4_tryOut 21 = .ok (.getfield 25, 3) := by decide +kernel
theorem dX4_tryOut_24 : decode cX4_tryOut 24 = .ok (.iconst 0, 1) := by decide +kernel
theorem dX4_tryOut_25 : decode cX4_tryOut 25 = .ok (.bipush 8, 2) := by decide +kernel
theorem dX4_tryOut_27 : decode cX4_tryOut 27 = .ok (.invokestatic 30, 3) := by decide +kernel
theorem dX4_tryOut_30 : decode cX4_tryOut 30 = .ok (.aload_n 1, 1) := by decide +kernel
theorem dX4_tryOut_31 : decode cX4_tryOut 31 = .ok (.aload_n 0, 1) := by decide +kernel
theorem dX4_tryOut_32 : decode cX4_tryOut 32 = .ok (.getfield 19, 3) := by decide +kernel
theorem dX4_tryOut_35 : decode cX4_tryOut 35 = .ok (.iload_n 2, 1) := by decide +kernel
theorem dX4_tryOut_36 : decode cX4_tryOut 36 = .ok (.invokevirtual 46, 3) := by decide +kernel
theorem dX4_tryOut_39 : decode cX4_tryOut 39 = .ok (.pop, 1) := by decide +kernel
theorem dX4_tryOut_40 : decode cX4_tryOut 40 = .ok (.aload_n 0, 1) := by decide +kernel
theorem dX4_tryOut_41 : decode cX4_tryOut 41 = .ok (.getfield 15, 3) := by decide +kernel
theorem dX4_tryOut_44 : decode cX4_tryOut 44 = .ok (.iload_n 2, 1) := by decide +kernel
theorem dX4_tryOut_45 : decode cX4_tryOut 45 = .ok (.iconst 0, 1) := by decide +kernel
theorem dX4_tryOut_46 : decode cX4_tryOut 46 = .ok (.iastore, 1) := by decide +kernel
theorem dX4_tryOut_47 : decode cX4_tryOut 47 = .ok (.iconst 0, 1) := by decide +kernel
theorem dX4_tryOut_48 : decode cX4_tryOut 48 = .ok (.istore 4, 2) := by decide +kernel
theorem dX4_tryOut_50 : decode cX4_tryOut 50 = .ok (.iload 4, 2) := by decide +kernel
theorem dX4_tryOut_52 : decode cX4_tryOut 52 = .ok (.aload_n 1, 1) := by decide +kernel
theorem dX4_tryOut_53 : decode cX4_tryOut 53 = .ok (.getfield 36, 3) := by decide +kernel
theorem dX4_tryOut_56 : decode cX4_tryOut 56 = .ok (.if_icmp .ge 134, 3) := by decide +kernel
theorem dX4_tryOut_59 : decode cX4_tryOut 59 = .ok (.iload_n 2, 1) := by decide +kernel
theorem dX4_tryOut_60 : decode cX4_tryOut 60 = .ok (.iload 4, 2) := by decide +kernel
theorem dX4_tryOut_62 : decode cX4_tryOut 62 = .ok (.ishr, 1) := by decide +kernel
theorem dX4_tryOut_63 : decode cX4_tryOut 63 = .ok (.iconst 1, 1) := by decide +kernel
theorem dX4_tryOut_64 : decode cX4_tryOut 64 = .ok (.iand, 1) := by decide +kernel
theorem dX4_tryOut_65 : decode cX4_tryOut 65 = .ok (.iconst 1, 1) := by decide +kernel
theorem dX4_tryOut_66 : decode cX4_tryOut 66 = .ok (.if_icmp .ne 118, 3) := by decide +kernel
theorem dX4_tryOut_69 : decode cX4_tryOut 69 = .ok (.aload_n 0, 1) := by decide +kernel
theorem dX4_tryOut_70 : decode cX4_tryOut 70 = .ok (.getfield 15, 3) := by decide +kernel
theorem dX4_tryOut_73 : decode cX4_tryOut 73 = .ok (.iload_n 2, 1) := by decide +kernel
theorem dX4_tryOut_74 : decode cX4_tryOut 74 = .ok (.dup2, 1) := by decide +kernel
theorem dX4_tryOut_75 : decode cX4_tryOut 75 = .ok (.iaload, 1) := by decide +kernel
theorem dX4_tryOut_76 : decode cX4_tryOut 76 = .ok (.aload_n 1, 1) := by decide +kernel
theorem dX4_tryOut_77 : decode cX4_tryOut 77 = .ok (.getfield 50, 3) := by decide +kernel
theorem dX4_tryOut_80 : decode cX4_tryOut 80 = .ok (.iload 4, 2) := by decide +kernel
theorem dX4_tryOut_82 : decode cX4_tryOut 82 = .ok (.iconst 4, 1) := by decide +kernel
theorem dX4_tryOut_83 : decode cX4_tryOut 83 = .ok (.imul, 1) := by decide +kernel
theorem dX4_tryOut_84 : decode cX4_tryOut 84 = .ok (.iconst 3, 1) := by decide +kernel
theorem dX4_tryOut_85 : decode cX4_tryOut 85 = .ok (.iadd, 1) := by decide +kernel
theorem dX4_tryOut_86 : decode cX4_tryOut 86 = .ok (.iaload, 1) := by decide +kernel
theorem dX4_tryOut_87 : decode cX4_tryOut 87 = .ok (.iadd, 1) := by decide +kernel
theorem dX4_tryOut_88 : decode cX4_tryOut 88 = .ok (.iastore, 1) := by decide +kernel
theorem dX4_tryOut_89 : decode cX4_tryOut 89 = .ok (.aload_n 1, 1) := by decide +kernel
theorem dX4_tryOut_90 : decode cX4_tryOut 90 = .ok (.getfield 50, 3) := by decide +kernel
theorem dX4_tryOut_93 : decode cX4_tryOut 93 = .ok (.iload 4, 2) := by decide +kernel
theorem dX4_tryOut_95 : decode cX4_tryOut 95 = .ok (.iconst 4, 1) := by decide +kernel
theorem dX4_tryOut_96 : decode cX4_tryOut 96 = .ok (.imul, 1) := by decide +kernel
theorem dX4_tryOut_97 : decode cX4_tryOut 97 = .ok (.iaload, 1) := by decide +kernel
theorem dX4_tryOut_98 : decode cX4_tryOut 98 = .ok (.istore 5, 2) := by decide +kernel
theorem dX4_tryOut_100 : decode cX4_tryOut 100 = .ok (.aload_n 1, 1) := by decide +kernel
theorem dX4_tryOut_101 : decode cX4_tryOut 101 = .ok (.getfield 50, 3) := by decide +kernel
theorem dX4_tryOut_104 : decode cX4_tryOut 104 = .ok (.iload 4, 2) := by decide +kernel
theorem dX4_tryOut_106 : decode cX4_tryOut 106 = .ok (.iconst 4, 1) := by decide +kernel
theorem dX4_tryOut_107 : decode cX4_tryOut 107 = .ok (.imul, 1) := by decide +kernel
theorem dX4_tryOut_108 : decode cX4_tryOut 108 = .ok (.iconst 1, 1) := by decide +kernel
theorem dX4_tryOut_109 : decode cX4_tryOut 109 = .ok (.iadd, 1) := by decide +kernel
theorem dX4_tryOut_110 : decode cX4_tryOut 110 = .ok (.iaload, 1) := by decide +kernel
theorem dX4_tryOut_111 : decode cX4_tryOut 111 = .ok (.istore 6, 2) := by decide +kernel
theorem dX4_tryOut_113 : decode cX4_tryOut 113 = .ok (.aload_n 3, 1) := by decide +kernel
theorem dX4_tryOut_114 : decode cX4_tryOut 114 = .ok (.aload_n 1, 1) := by decide +kernel
theorem dX4_tryOut_115 : decode cX4_tryOut 115 = .ok (.iload 5, 2) := by decide +kernel
theorem dX4_tryOut_117 : decode cX4_tryOut 117 = .ok (.iload 6, 2) := by decide +kernel
theorem dX4_tryOut_119 : decode cX4_tryOut 119 = .ok (.aload_n 0, 1) := by decide +kernel
theorem dX4_tryOut_120 : decode cX4_tryOut 120 = .ok (.getfield 19, 3) := by decide +kernel
theorem dX4_tryOut_123 : decode cX4_tryOut 123 = .ok (.iload 5, 2) := by decide +kernel
theorem dX4_tryOut_125 : decode cX4_tryOut 125 = .ok (.bipush 8, 2) := by decide +kernel
theorem dX4_tryOut_127 : decode cX4_tryOut 127 = .ok (.imul, 1) := by decide +kernel
theorem dX4_tryOut_128 : decode cX4_tryOut 128 = .ok (.iload 6, 2) := by decide +kernel
theorem dX4_tryOut_130 : decode cX4_tryOut 130 = .ok (.iadd, 1) := by decide +kernel
theorem dX4_tryOut_131 : decode cX4_tryOut 131 = .ok (.iaload, 1) := by decide +kernel
theorem dX4_tryOut_132 : decode cX4_tryOut 132 = .ok (.aload_n 1, 1) := by decide +kernel
theorem dX4_tryOut_133 : decode cX4_tryOut 133 = .ok (.getfield 53, 3) := by decide +kernel
theorem dX4_tryOut_136 : decode cX4_tryOut 136 = .ok (.iconst 2, 1) := by decide +kernel
theorem dX4_tryOut_137 : decode cX4_tryOut 137 = .ok (.iaload, 1) := by decide +kernel
theorem dX4_tryOut_138 : decode cX4_tryOut 138 = .ok (.invokevirtual 56, 3) := by decide +kernel
theorem dX4_tryOut_141 : decode cX4_tryOut 141 = .ok (.aload_n 3, 1) := by decide +kernel
theorem dX4_tryOut_142 : decode cX4_tryOut 142 = .ok (.getfield 25, 3) := by decide +kernel
theorem dX4_tryOut_145 : decode cX4_tryOut 145 = .ok (.iload 5, 2) := by decide +kernel
theorem dX4_tryOut_147 : decode cX4_tryOut 147 = .ok (.iaload, 1) := by decide +kernel
theorem dX4_tryOut_148 : decode cX4_tryOut 148 = .ok (.iconst 1, 1) := by decide +kernel
theorem dX4_tryOut_149 : decode cX4_tryOut 149 = .ok (.iload 6, 2) := by decide +kernel
theorem dX4_tryOut_151 : decode cX4_tryOut 151 = .ok (.ishl, 1) := by decide +kernel
theorem dX4_tryOut_152 : decode cX4_tryOut 152 = .ok (.iconst (-1), 1) := by decide +kernel
theorem dX4_tryOut_153 : decode cX4_tryOut 153 = .ok (.ixor, 1) := by decide +kernel
theorem dX4_tryOut_154 : decode cX4_tryOut 154 = .ok (.iand, 1) := by decide +kernel
theorem dX4_tryOut_155 : decode cX4_tryOut 155 = .ok (.istore 7, 2) := by decide +kernel
theorem dX4_tryOut_157 : decode cX4_tryOut 157 = .ok (.aload_n 3, 1) := by decide +kernel
theorem dX4_tryOut_158 : decode cX4_tryOut 158 = .ok (.getfield 25, 3) := by decide +kernel
theorem dX4_tryOut_161 : decode cX4_tryOut 161 = .ok (.iload 5, 2) := by decide +kernel
theorem dX4_tryOut_163 : decode cX4_tryOut 163 = .ok (.aload_n 3, 1) := by decide +kernel
theorem dX4_tryOut_164 : decode cX4_tryOut 164 = .ok (.aload_n 1, 1) := by decide +kernel
theorem dX4_tryOut_165 : decode cX4_tryOut 165 = .ok (.invokevirtual 60, 3) := by decide +kernel
theorem dX4_tryOut_168 : decode cX4_tryOut 168 = .ok (.ifCond .eq 13, 3) := by decide +kernel
theorem dX4_tryOut_171 : decode cX4_tryOut 171 = .ok (.iload 7, 2) := by decide +kernel
theorem dX4_tryOut_173 : decode cX4_tryOut 173 = .ok (.iconst 1, 1) := by decide +kernel
theorem dX4_tryOut_174 : decode cX4_tryOut 174 = .ok (.iload 6, 2) := by decide +kernel
theorem dX4_tryOut_176 : decode cX4_tryOut 176 = .ok (.ishl, 1) := by decide +kernel
theorem dX4_tryOut_177 : decode cX4_tryOut 177 = .ok (.ior, 1) := by decide +kernel
theorem dX4_tryOut_178 : decode cX4_tryOut 178 = .ok (.goto 5, 3) := by decide +kernel
theorem dX4_tryOut_181 : decode cX4_tryOut 181 = .ok (.iload 7, 2) := by decide +kernel
theorem dX4_tryOut_183 : decode cX4_tryOut 183 = .ok (.iastore, 1) := by decide +kernel
theorem dX4_tryOut_184 : decode cX4_tryOut 184 = .ok (.iinc 4 1, 3) := by decide +kernel
theorem dX4_tryOut_187 : decode cX4_tryOut 187 = .ok (.goto (-137), 3) := by decide +kernel
theorem dX4_tryOut_190 : decode cX4_tryOut 190 = .ok (.return_, 1) := by decide +kernel
def bX4_tryOut_0 (l : Launch) (E : Ev) (d : Nat) (Q : Option Value → Hp → Prop) : Kt := k_aload 1 (k_getR 7 15 5 (k_push (.int 0) (k_aload 0 (k_getR 4 5 2 (k_push (.int 0) (k_push (.int 64) (k_copyI (k_aload 0 (k_getR 4 5 3 (k_push (.int 0) (k_aload 3 (k_getR 0 7 2 (k_push (.int 0) (k_push (.int 8) (k_copyI (k_aload 1 (k_aload 0 (k_getR 4 5 2 (k_iload 2 (k_callV l E 7 15 YX7_raise d 0 0 2 (k_pop (k_aload 0 (k_getR 4 5 1 (k_iload 2 (k_push (.int 0) (k_iastore (k_push (.int 0) (k_istore 4 (Go l E YX4_tryOut (d + 1) 0 0 Q 0 0 50)))))))))))))))))))))))))))))
set_option maxRecDepth 100000 in
set_option maxHeartbeats 4000000 in
theorem gX4_tryOut_0 {l : Launch} {E : Ev} {d : Nat} {Q : Option Value → Hp → Prop} {ls : Lv} {st : List Value} {h : Hp} (hB : bX4_tryOut_0 l E d Q ls st h) : Go l E YX4_tryOut (d + 1) 0 0 Q 0 0 0 ls st h :=
  (sd_aload_n (i := 1) rfl dX4_tryOut_0 (sd_getR clsX7 (f := 5) (by decide) (fun _ _ _ => rfl) mw_158 dX4_tryOut_1 (sd_iconst (v := 0) (by decide) dX4_tryOut_4 (sd_aload_n (i := 0) rfl dX4_tryOut_5 (sd_getR clsX4 (f := 2) (by decide) (fun _ _ _ => rfl) mw_382 dX4_tryOut_6 (sd_iconst (v := 0) (by decide) dX4_tryOut_9 (sd_bipush (v := 64) (by decide) dX4_tryOut_10 (sd_copyI mw_1059 mw_744 mw_743 mw_116 (by omega) dX4_tryOut_12 (sd_aload_n (i := 0) rfl dX4_tryOut_15 (sd_getR clsX4 (f := 3) (by decide) (fun _ _ _ => rfl) mw_383 dX4_tryOut_16 (sd_iconst (v := 0) (by decide) dX4_tryOut_19 (sd_aload_n (i := 3) rfl dX4_tryOut_20 (sd_getR clsX0 (f := 2) (by decide) (fun _ _ _ => rfl) mw_274 dX4_tryOut_21 (sd_iconst (v := 0) (by decide) dX4_tryOut_24 (sd_bipush (v := 8) (by decide) dX4_tryOut_25 (sd_copyI mw_1059 mw_744 mw_743 mw_116 (by omega) dX4_tryOut_27 (sd_aload_n (i := 1) rfl dX4_tryOut_30 (sd_aload_n (i := 0) rfl dX4_tryOut_31 (sd_getR clsX4 (f := 2) (by decide) (fun _ _ _ => rfl) mw_382 dX4_tryOut_32 (sd_iload_n (i := 2) rfl dX4_tryOut_35 (sd_callV (Y' := YX7_raise) (mc' := 0) (ms' := 0) (n := 2) clsX7.1 mw_1064 mw_1065 mw_1066 mw_101 mw_1067 rfl (okmX7_raise) (by decide) (Nat.le_refl _) (by decide) (by decide) dX4_tryOut_36 (sd_pop dX4_tryOut_39 (sd_aload_n (i := 0) rfl dX4_tryOut_40 (sd_getR clsX4 (f := 1) (by decide) (fun _ _ _ => rfl) mw_381 dX4_tryOut_41 (sd_iload_n (i := 2) rfl dX4_tryOut_44 (sd_iconst (v := 0) (by decide) dX4_tryOut_45 (sd_iastore dX4_tryOut_46 (sd_iconst (v := 0) (by decide) dX4_tryOut_47 (sd_istore (i := 4) (by decide) dX4_tryOut_48 (Sd.go))))))))))))))))))))))))))))) : Sd l E YX4_tryOut (d + 1) 0 0 Q 0 0 0 (bX4_tryOut_0 l E d Q)) ls st h hB
def bX4_tryOut_50 (l : Launch) (E : Ev) (d : Nat) (Q : Option Value → Hp → Prop) : Kt := k_iload 4 (k_aload 1 (k_getI 7 15 12 (k_icmp_ge (k_vret Q) (k_iload 2 (k_iload 4 (k_ishr (k_push (.int 1) (k_iand (k_push (.int 1) (k_icmp_ne (k_iinc 4 1 (Go l E YX4_tryOut (d + 1) 0 0 Q 0 0 50)) (k_aload 0 (k_getR 4 5 1 (k_iload 2 (k_dup2 (k_iaload (k_aload 1 (k_getR 7 15 11 (k_iload 4 (k_push (.int 4) (k_imul (k_push (.int 3) (k_iadd (k_iaload (k_iadd (k_iastore (k_aload 1 (k_getR 7 15 11 (k_iload 4 (k_push (.int 4) (k_imul (k_iaload (k_istore 5 (k_aload 1 (k_getR 7 15 11 (k_iload 4 (k_push (.int 4) (k_imul (k_push (.int 1) (k_iadd (k_iaload (k_istore 6 (k_aload 3 (k_aload 1 (k_iload 5 (k_iload 6 (k_aload 0 (k_getR 4 5 2 (k_iload 5 (k_push (.int 8) (k_imul (k_iload 6 (k_iadd (k_iaload (k_aload 1 (k_getR 7 15 7 (k_push (.int 2) (k_iaload (k_callV l E 0 7 YX0_ask d 0 0 5 (k_aload 3 (k_getR 0 7 2 (k_iload 5 (k_iaload (k_push (.int 1) (k_iload 6 (k_ishl (k_push (.int (-1)) (k_ixor (k_iand (k_istore 7 (k_aload 3 (k_getR 0 7 2 (k_iload 5 (k_aload 3 (k_aload 1 (k_callV l E 0 7 YX0_canPlay d 0 0 1 (k_if_eq (k_iload 7 (k_iastore (k_iinc 4 1 (Go l E YX4_tryOut (d + 1) 0 0 Q 0 0 50)))) (k_iload 7 (k_push (.int 1) (k_iload 6 (k_ishl (k_ior (k_iastore (k_iinc 4 1 (Go l E YX4_tryOut (d + 1) 0 0 Q 0 0 50))))))))))))))))))))))))))))))))))))))))))))))))))))))))))))))))))))))))))))))))))))
set_option maxRecDepth 100000 in
set_option maxHeartbeats 4000000 in
theorem gX4_tryOut_50 {l : Launch} {E : Ev} {d : Nat} {Q : Option Value → Hp → Prop} {ls : Lv} {st : List Value} {h : Hp} (hB : bX4_tryOut_50 l E d Q ls st h) : Go l E YX4_tryOut (d + 1) 0 0 Q 0 0 50 ls st h :=
  (sd_iload (n := 4) dX4_tryOut_50 (sd_aload_n (i := 1) rfl dX4_tryOut_52 (sd_getI clsX7 (f := 12) (by decide) (fun _ _ _ => rfl) mw_176 dX4_tryOut_53 (sd_icmp_ge (tgt := 190) (by decide) dX4_tryOut_56 (sd_vret rfl (by decide) (by decide) dX4_tryOut_190) (sd_iload_n (i := 2) rfl dX4_tryOut_59 (sd_iload (n := 4) dX4_tryOut_60 (sd_ishr dX4_tryOut_62 (sd_iconst (v := 1) (by decide) dX4_tryOut_63 (sd_iand dX4_tryOut_64 (sd_iconst (v := 1) (by decide) dX4_tryOut_65 (sd_icmp_ne (tgt := 184) (by decide) dX4_tryOut_66 (sd_iinc (i := 4) (v := 1) (by decide) (by decide) dX4_tryOut_184 (sd_goto (tgt := 50) (by decide) dX4_tryOut_187 (Sd.go))) (sd_aload_n (i := 0) rfl dX4_tryOut_69 (sd_getR clsX4 (f := 1) (by decide) (fun _ _ _ => rfl) mw_381 dX4_tryOut_70 (sd_iload_n (i := 2) rfl dX4_tryOut_73 (sd_dup2 dX4_tryOut_74 (sd_iaload dX4_tryOut_75 (sd_aload_n (i := 1) rfl dX4_tryOut_76 (sd_getR clsX7 (f := 11) (by decide) (fun _ _ _ => rfl) mw_174 dX4_tryOut_77 (sd_iload (n := 4) dX4_tryOut_80 (sd_iconst (v := 4) (by decide) dX4_tryOut_82 (sd_imul dX4_tryOut_83 (sd_iconst (v := 3) (by decide) dX4_tryOut_84 (sd_iadd dX4_tryOut_85 (sd_iaload dX4_tryOut_86 (sd_iadd dX4_tryOut_87 (sd_iastore dX4_tryOut_88 (sd_aload_n (i := 1) rfl dX4_tryOut_89 (sd_getR clsX7 (f := 11) (by decide) (fun _ _ _ => rfl) mw_174 dX4_tryOut_90 (sd_iload (n := 4) dX4_tryOut_93 (sd_iconst (v := 4) (by decide) dX4_tryOut_95 (sd_imul dX4_tryOut_96 (sd_iaload dX4_tryOut_97 (sd_istore (i := 5) (by decide) dX4_tryOut_98 (sd_aload_n (i := 1) rfl dX4_tryOut_100 (sd_getR clsX7 (f := 11) (by decide) (fun _ _ _ => rfl) mw_174 dX4_tryOut_101 (sd_iload (n := 4) dX4_tryOut_104 (sd_iconst (v := 4) (by decide) dX4_tryOut_106 (sd_imul dX4_tryOut_107 (sd_iconst (v := 1) (by decide) dX4_tryOut_108 (sd_iadd dX4_tryOut_109 (sd_iaload dX4_tryOut_110 (sd_istore (i := 6) (by decide) dX4_tryOut_111 (sd_aload_n (i := 3) rfl dX4_tryOut_113 (sd_aload_n (i := 1) rfl dX4_tryOut_114 (sd_iload (n := 5) dX4_tryOut_115 (sd_iload (n := 6) dX4_tryOut_117 (sd_aload_n (i := 0) rfl dX4_tryOut_119 (sd_getR clsX4 (f := 2) (by decide) (fun _ _ _ => rfl) mw_382 dX4_tryOut_120 (sd_iload (n := 5) dX4_tryOut_123 (sd_bipush (v := 8) (by decide) dX4_tryOut_125 (sd_imul dX4_tryOut_127 (sd_iload (n := 6) dX4_tryOut_128 (sd_iadd dX4_tryOut_130 (sd_iaload dX4_tryOut_131 (sd_aload_n (i := 1) rfl dX4_tryOut_132 (sd_getR clsX7 (f := 7) (by decide) (fun _ _ _ => rfl) mw_165 dX4_tryOut_133 (sd_iconst (v := 2) (by decide) dX4_tryOut_136 (sd_iaload dX4_tryOut_137 (sd_callV (Y' := YX0_ask) (mc' := 0) (ms' := 0) (n := 5) clsX0.1 mw_1068 mw_552 mw_553 mw_103 mw_554 rfl (okmX0_ask) (by decide) (Nat.le_refl _) (by decide) (by decide) dX4_tryOut_138 (sd_aload_n (i := 3) rfl dX4_tryOut_141 (sd_getR clsX0 (f := 2) (by decide) (fun _ _ _ => rfl) mw_274 dX4_tryOut_142 (sd_iload (n := 5) dX4_tryOut_145 (sd_iaload dX4_tryOut_147 (sd_iconst (v := 1) (by decide) dX4_tryOut_148 (sd_iload (n := 6) dX4_tryOut_149 (sd_ishl dX4_tryOut_151 (sd_iconst (v := (-1)) (by decide) dX4_tryOut_152 (sd_ixor dX4_tryOut_153 (sd_iand dX4_tryOut_154 (sd_istore (i := 7) (by decide) dX4_tryOut_155 (sd_aload_n (i := 3) rfl dX4_tryOut_157 (sd_getR clsX0 (f := 2) (by decide) (fun _ _ _ => rfl) mw_274 dX4_tryOut_158 (sd_iload (n := 5) dX4_tryOut_161 (sd_aload_n (i := 3) rfl dX4_tryOut_163 (sd_aload_n (i := 1) rfl dX4_tryOut_164 (sd_callV (Y' := YX0_canPlay) (mc' := 0) (ms' := 0) (n := 1) clsX0.1 mw_1069 mw_556 mw_557 mw_103 mw_558 rfl (okmX0_canPlay) (by decide) (Nat.le_refl _) (by decide) (by decide) dX4_tryOut_165 (sd_if_eq (tgt := 181) (by decide) dX4_tryOut_168 (sd_iload (n := 7) dX4_tryOut_181 (sd_iastore dX4_tryOut_183 (sd_iinc (i := 4) (v := 1) (by decide) (by decide) dX4_tryOut_184 (sd_goto (tgt := 50) (by decide) dX4_tryOut_187 (Sd.go))))) (sd_iload (n := 7) dX4_tryOut_171 (sd_iconst (v := 1) (by decide) dX4_tryOut_173 (sd_iload (n := 6) dX4_tryOut_174 (sd_ishl dX4_tryOut_176 (sd_ior dX4_tryOut_177 (sd_goto (tgt := 183) (by decide) dX4_tryOut_178 (sd_iastore dX4_tryOut_183 (sd_iinc (i := 4) (v := 1) (by decide) (by decide) dX4_tryOut_184 (sd_goto (tgt := 50) (by decide) dX4_tryOut_187 (Sd.go)))))))))))))))))))))))))))))))))))))))))))))))))))))))))))))))))))))))))))))))))))))) : Sd l E YX4_tryOut (d + 1) 0 0 Q 0 0 50 (bX4_tryOut_50 l E d Q)) ls st h hB
theorem eX4_tryOut {l : Launch} {E : Ev} {d : Nat} {Q : Option Value → Hp → Prop} {h : Hp} {a0 : Nat} {x1 : Nat} {x2 : Int32} {x3 : Nat} (hk : Go l E YX4_tryOut d 0 0 Q 0 0 0 [some (.ref a0), some (.ref x1), some (.int x2), some (.ref x3), none, none, none, none] [] h) : GoM l E YX4_tryOut d 0 0 [.ref a0, .ref x1, .int x2, .ref x3] h Q := GoM.of (by decide +kernel) rfl (by simp [entA, YX4_tryOut]) hk
theorem dX4_cheapest_0 : decode cX4_cheapest 0 = .ok (.iconst (-1), 1) := by decide +kernel
theorem dX4_cheapest_1 : decode cX4_cheapest 1 = .ok (.istore_n 3, 1) := by decide +kernel
theorem dX4_cheapest_2 : decode cX4_cheapest 2 = .ok (.iconst 0, 1) := by decide +kernel
theorem dX4_cheapest_3 : decode cX4_cheapest 3 = .ok (.istore 4, 2) := by decide +kernel
theorem dX4_cheapest_5 : decode cX4_cheapest 5 = .ok (.iload 4, 2) := by decide +kernel
theorem dX4_cheapest_7 : decode cX4_cheapest 7 = .ok (.aload_n 0, 1) := by decide +kernel
theorem dX4_cheapest_8 : decode cX4_cheapest 8 = .ok (.getfield 42, 3) := by decide +kernel
theorem dX4_cheapest_11 : decode cX4_cheapest 11 = .ok (.if_icmp .ge 68, 3) := by decide +kernel
theorem dX4_cheapest_14 : decode cX4_cheapest 14 = .ok (.iload 4, 2) := by decide +kernel
theorem dX4_cheapest_16 : decode cX4_cheapest 16 = .ok (.iload_n 2, 1) := by decide +kernel
theorem dX4_cheapest_17 : decode cX4_cheapest 17 = .ok (.iand, 1) := by decide +kernel
theorem dX4_cheapest_18 : decode cX4_cheapest 18 = .ok (.ifCond .ne 23, 3) := by decide +kernel
theorem dX4_cheapest_21 : decode cX4_cheapest 21 = .ok (.aload_n 0, 1) := by decide +kernel
theorem dX4_cheapest_22 : decode cX4_cheapest 22 = .ok (.getfield 9, 3) := by decide +kernel
theorem dX4_cheapest_25 : decode cX4_cheapest 25 = .ok (.iload_n 1, 1) := by decide +kernel
theorem dX4_cheapest_26 : decode cX4_cheapest 26 = .ok (.sipush 128, 3) := by decide +kernel
theorem dX4_cheapest_29 : decode cX4_cheapest 29 = .ok (.imul, 1) := by decide +kernel
theorem dX4_cheapest_30 : decode cX4_cheapest 30 = .ok (.iload 4, 2) := by decide +kernel
theorem dX4_cheapest_32 : decode cX4_cheapest 32 = .ok (.iadd, 1) := by decide +kernel
theorem dX4_cheapest_33 : decode cX4_cheapest 33 = .ok (.baload, 1) := by decide +kernel
theorem dX4_cheapest_34 : decode cX4_cheapest 34 = .ok (.ifCond .eq 7, 3) := by decide +kernel
theorem dX4_cheapest_37 : decode cX4_cheapest 37 = .ok (.iconst 1, 1) := by decide +kernel
theorem dX4_cheapest_38 : decode cX4_cheapest 38 = .ok (.goto 4, 3) := by decide +kernel
theorem dX4_cheapest_41 : decode cX4_cheapest 41 = .ok (.iconst 0, 1) := by decide +kernel
theorem dX4_cheapest_42 : decode cX4_cheapest 42 = .ok (.istore 5, 2) := by decide +kernel
theorem dX4_cheapest_44 : decode cX4_cheapest 44 = .ok (.iload 5, 2) := by decide +kernel
theorem dX4_cheapest_46 : decode cX4_cheapest 46 = .ok (.ifCond .eq 27, 3) := by decide +kernel
theorem dX4_cheapest_49 : decode cX4_cheapest 49 = .ok (.iload_n 3, 1) := by decide +kernel
theorem dX4_cheapest_50 : decode cX4_cheapest 50 = .ok (.iconst (-1), 1) := by decide +kernel
theorem dX4_cheapest_51 : decode cX4_cheapest 51 = .ok (.if_icmp .eq 19, 3) := by decide +kernel
theorem dX4_cheapest_54 : decode cX4_cheapest 54 = .ok (.aload_n 0, 1) := by decide +kernel
theorem dX4_cheapest_55 : decode cX4_cheapest 55 = .ok (.getfield 15, 3) := by decide +kernel
theorem dX4_cheapest_58 : decode cX4_cheapest 58 = .ok (.iload 4, 2) := by decide +kernel
theorem dX4_cheapest_60 : decode cX4_cheapest 60 = .ok (.iaload, 1) := by decide +kernel
theorem dX4_cheapest_61 : decode cX4_cheapest 61 = .ok (.aload_n 0, 1) := by decide +kernel
theorem dX4_cheapest_62 : decode cX4_cheapest 62 = .ok (.getfield 15, 3) := by decide +kernel
theorem dX4_cheapest_65 : decode cX4_cheapest 65 = .ok (.iload_n 3, 1) := by decide +kernel
theorem dX4_cheapest_66 : decode cX4_cheapest 66 = .ok (.iaload, 1) := by decide +kernel
theorem dX4_cheapest_67 : decode cX4_cheapest 67 = .ok (.if_icmp .ge 6, 3) := by decide +kernel
theorem dX4_cheapest_70 : decode cX4_cheapest 70 = .ok (.iload 4, 2) := by decide +kernel
theorem dX4_cheapest_72 : decode cX4_cheapest 72 = .ok (.istore_n 3, 1) := by decide +kernel
theorem dX4_cheapest_73 : decode cX4_cheapest 73 = .ok (.iinc 4 1, 3) := by decide +kernel
theorem dX4_cheapest_76 : decode cX4_cheapest 76 = .ok (.goto (-71), 3) := by decide +kernel
theorem dX4_cheapest_79 : decode cX4_cheapest 79 = .ok (.iload_n 3, 1) := by decide +kernel
theorem dX4_cheapest_80 : decode cX4_cheapest 80 = .ok (.ireturn, 1) := by decide +kernel
def bX4_cheapest_0 (l : Launch) (E : Ev) (d : Nat) (Q : Option Value → Hp → Prop) : Kt := k_push (.int (-1)) (k_istore 3 (k_push (.int 0) (k_istore 4 (Go l E YX4_cheapest (d + 1) 0 0 Q 0 0 5))))
set_option maxRecDepth 100000 in
set_option maxHeartbeats 4000000 in
theorem gX4_cheapest_0 {l : Launch} {E : Ev} {d : Nat} {Q : Option Value → Hp → Prop} {ls : Lv} {st : List Value} {h : Hp} (hB : bX4_cheapest_0 l E d Q ls st h) : Go l E YX4_cheapest (d + 1) 0 0 Q 0 0 0 ls st h :=
  (sd_iconst (v := (-1)) (by decide) dX4_cheapest_0 (sd_istore_n (i := 3) rfl (by decide) dX4_cheapest_1 (sd_iconst (v := 0) (by decide) dX4_cheapest_2 (sd_istore (i := 4) (by decide) dX4_cheapest_3 (Sd.go)))) : Sd l E YX4_cheapest (d + 1) 0 0 Q 0 0 0 (bX4_cheapest_0 l E d Q)) ls st h hB
def bX4_cheapest_5 (l : Launch) (E : Ev) (d : Nat) (Q : Option Value → Hp → Prop) : Kt := k_iload 4 (k_aload 0 (k_getI 4 5 4 (k_icmp_ge (k_iload 3 (k_iret .int Q)) (k_iload 4 (k_iload 2 (k_iand (k_if_ne (k_push (.int 0) (Go l E YX4_cheapest (d + 1) 0 0 Q 0 0 42)) (k_aload 0 (k_getR 4 5 0 (k_iload 1 (k_push (.int 128) (k_imul (k_iload 4 (k_iadd (k_zaload (k_if_eq (k_push (.int 0) (Go l E YX4_cheapest (d + 1) 0 0 Q 0 0 42)) (k_push (.int 1) (Go l E YX4_cheapest (d + 1) 0 0 Q 0 0 42))))))))))))))))))
set_option maxRecDepth 100000 in
set_option maxHeartbeats 4000000 in
theorem gX4_cheapest_5 {l : Launch} {E : Ev} {d : Nat} {Q : Option Value → Hp → Prop} {ls : Lv} {st : List Value} {h : Hp} (hB : bX4_cheapest_5 l E d Q ls st h) : Go l E YX4_cheapest (d + 1) 0 0 Q 0 0 5 ls st h :=
  (sd_iload (n := 4) dX4_cheapest_5 (sd_aload_n (i := 0) rfl dX4_cheapest_7 (sd_getI clsX4 (f := 4) (by decide) (fun _ _ _ => rfl) mw_384 dX4_cheapest_8 (sd_icmp_ge (tgt := 79) (by decide) dX4_cheapest_11 (sd_iload_n (i := 3) rfl dX4_cheapest_79 (sd_iret (ty := .int) rfl (by decide) (by decide) dX4_cheapest_80)) (sd_iload (n := 4) dX4_cheapest_14 (sd_iload_n (i := 2) rfl dX4_cheapest_16 (sd_iand dX4_cheapest_17 (sd_if_ne (tgt := 41) (by decide) dX4_cheapest_18 (sd_iconst (v := 0) (by decide) dX4_cheapest_41 (Sd.go)) (sd_aload_n (i := 0) rfl dX4_cheapest_21 (sd_getR clsX4 (f := 0) (by decide) (fun _ _ _ => rfl) mw_379 dX4_cheapest_22 (sd_iload_n (i := 1) rfl dX4_cheapest_25 (sd_sipush (v := 128) (by decide) dX4_cheapest_26 (sd_imul dX4_cheapest_29 (sd_iload (n := 4) dX4_cheapest_30 (sd_iadd dX4_cheapest_32 (sd_zaload dX4_cheapest_33 (sd_if_eq (tgt := 41) (by decide) dX4_cheapest_34 (sd_iconst (v := 0) (by decide) dX4_cheapest_41 (Sd.go)) (sd_iconst (v := 1) (by decide) dX4_cheapest_37 (sd_goto (tgt := 42) (by decide) dX4_cheapest_38 (Sd.go))))))))))))))))))) : Sd l E YX4_cheapest (d + 1) 0 0 Q 0 0 5 (bX4_cheapest_5 l E d Q)) ls st h hB
def bX4_cheapest_42 (l : Launch) (E : Ev) (d : Nat) (Q : Option Value → Hp → Prop) : Kt := k_istore 5 (k_iload 5 (k_if_eq (k_iinc 4 1 (Go l E YX4_cheapest (d + 1) 0 0 Q 0 0 5)) (k_iload 3 (k_push (.int (-1)) (k_icmp_eq (k_iload 4 (k_istore 3 (k_iinc 4 1 (Go l E YX4_cheapest (d + 1) 0 0 Q 0 0 5)))) (k_aload 0 (k_getR 4 5 1 (k_iload 4 (k_iaload (k_aload 0 (k_getR 4 5 1 (k_iload 3 (k_iaload (k_icmp_ge (k_iinc 4 1 (Go l E YX4_cheapest (d + 1) 0 0 Q 0 0 5)) (k_iload 4 (k_istore 3 (k_iinc 4 1 (Go l E YX4_cheapest (d + 1) 0 0 Q 0 0 5))))))))))))))))))
set_option maxRecDepth 100000 in
set_option maxHeartbeats 4000000 in
theorem gX4_cheapest_42 {l : Launch} {E : Ev} {d : Nat} {Q : Option Value → Hp → Prop} {ls : Lv} {st : List Value} {h : Hp} (hB : bX4_cheapest_42 l E d Q ls st h) : Go l E YX4_cheapest (d + 1) 0 0 Q 0 0 42 ls st h :=
  (sd_istore (i := 5) (by decide) dX4_cheapest_42 (sd_iload (n := 5) dX4_cheapest_44 (sd_if_eq (tgt := 73) (by decide) dX4_cheapest_46 (sd_iinc (i := 4) (v := 1) (by decide) (by decide) dX4_cheapest_73 (sd_goto (tgt := 5) (by decide) dX4_cheapest_76 (Sd.go))) (sd_iload_n (i := 3) rfl dX4_cheapest_49 (sd_iconst (v := (-1)) (by decide) dX4_cheapest_50 (sd_icmp_eq (tgt := 70) (by decide) dX4_cheapest_51 (sd_iload (n := 4) dX4_cheapest_70 (sd_istore_n (i := 3) rfl (by decide) dX4_cheapest_72 (sd_iinc (i := 4) (v := 1) (by decide) (by decide) dX4_cheapest_73 (sd_goto (tgt := 5) (by decide) dX4_cheapest_76 (Sd.go))))) (sd_aload_n (i := 0) rfl dX4_cheapest_54 (sd_getR clsX4 (f := 1) (by decide) (fun _ _ _ => rfl) mw_381 dX4_cheapest_55 (sd_iload (n := 4) dX4_cheapest_58 (sd_iaload dX4_cheapest_60 (sd_aload_n (i := 0) rfl dX4_cheapest_61 (sd_getR clsX4 (f := 1) (by decide) (fun _ _ _ => rfl) mw_381 dX4_cheapest_62 (sd_iload_n (i := 3) rfl dX4_cheapest_65 (sd_iaload dX4_cheapest_66 (sd_icmp_ge (tgt := 73) (by decide) dX4_cheapest_67 (sd_iinc (i := 4) (v := 1) (by decide) (by decide) dX4_cheapest_73 (sd_goto (tgt := 5) (by decide) dX4_cheapest_76 (Sd.go))) (sd_iload (n := 4) dX4_cheapest_70 (sd_istore_n (i := 3) rfl (by decide) dX4_cheapest_72 (sd_iinc (i := 4) (v := 1) (by decide) (by decide) dX4_cheapest_73 (sd_goto (tgt := 5) (by decide) dX4_cheapest_76 (Sd.go))))))))))))))))))) : Sd l E YX4_cheapest (d + 1) 0 0 Q 0 0 42 (bX4_cheapest_42 l E d Q)) ls st h hB
theorem eX4_cheapest {l : Launch} {E : Ev} {d : Nat} {Q : Option Value → Hp → Prop} {h : Hp} {a0 : Nat} {x1 : Int32} {x2 : Int32} (hk : Go l E YX4_cheapest d 0 0 Q 0 0 0 [some (.ref a0), some (.int x1), some (.int x2), none, none, none] [] h) : GoM l E YX4_cheapest d 0 0 [.ref a0, .int x1, .int x2] h Q := GoM.of (by decide +kernel) rfl (by simp [entA, YX4_cheapest]) hk
theorem dX4_hoursOf_0 : decode cX4_hoursOf 0 = .ok (.iload_n 1, 1) := by decide +kernel
theorem dX4_hoursOf_1 : decode cX4_hoursOf 1 = .ok (.ifCond .lt 20, 3) := by decide +kernel
theorem dX4_hoursOf_4 : decode cX4_hoursOf 4 = .ok (.iload_n 1, 1) := by decide +kernel
theorem dX4_hoursOf_5 : decode cX4_hoursOf 5 = .ok (.aload_n 0, 1) := by decide +kernel
theorem dX4_hoursOf_6 : decode cX4_hoursOf 6 = .ok (.getfield 42, 3) := by decide +kernel
theorem dX4_hoursOf_9 : decode cX4_hoursOf 9 = .ok (.if_icmp .ge 12, 3) := by decide +kernel
theorem dX4_hoursOf_12 : decode cX4_hoursOf 12 = .ok (.aload_n 0, 1) := by decide +kernel
theorem dX4_hoursOf_13 : decode cX4_hoursOf 13 = .ok (.getfield 15, 3) := by decide +kernel
theorem dX4_hoursOf_16 : decode cX4_hoursOf 16 = .ok (.iload_n 1, 1) := by decide +kernel
theorem dX4_hoursOf_17 : decode cX4_hoursOf 17 = .ok (.iaload, 1) := by decide +kernel
theorem dX4_hoursOf_18 : decode cX4_hoursOf 18 = .ok (.goto 4, 3) := by decide +kernel
theorem dX4_hoursOf_21 : decode cX4_hoursOf 21 = .ok (.iconst (-1), 1) := by decide +kernel
theorem dX4_hoursOf_22 : decode cX4_hoursOf 22 = .ok (.ireturn, 1) := by decide +kernel
def bX4_hoursOf_0 (l : Launch) (E : Ev) (d : Nat) (Q : Option Value → Hp → Prop) : Kt := k_iload 1 (k_if_lt (k_push (.int (-1)) (k_iret .int Q)) (k_iload 1 (k_aload 0 (k_getI 4 5 4 (k_icmp_ge (k_push (.int (-1)) (k_iret .int Q)) (k_aload 0 (k_getR 4 5 1 (k_iload 1 (k_iaload (k_iret .int Q))))))))))
set_option maxRecDepth 100000 in
set_option maxHeartbeats 4000000 in
theorem gX4_hoursOf_0 {l : Launch} {E : Ev} {d : Nat} {Q : Option Value → Hp → Prop} {ls : Lv} {st : List Value} {h : Hp} (hB : bX4_hoursOf_0 l E d Q ls st h) : Go l E YX4_hoursOf (d + 1) 0 0 Q 0 0 0 ls st h :=
  (sd_iload_n (i := 1) rfl dX4_hoursOf_0 (sd_if_lt (tgt := 21) (by decide) dX4_hoursOf_1 (sd_iconst (v := (-1)) (by decide) dX4_hoursOf_21 (sd_iret (ty := .int) rfl (by decide) (by decide) dX4_hoursOf_22)) (sd_iload_n (i := 1) rfl dX4_hoursOf_4 (sd_aload_n (i := 0) rfl dX4_hoursOf_5 (sd_getI clsX4 (f := 4) (by decide) (fun _ _ _ => rfl) mw_384 dX4_hoursOf_6 (sd_icmp_ge (tgt := 21) (by decide) dX4_hoursOf_9 (sd_iconst (v := (-1)) (by decide) dX4_hoursOf_21 (sd_iret (ty := .int) rfl (by decide) (by decide) dX4_hoursOf_22)) (sd_aload_n (i := 0) rfl dX4_hoursOf_12 (sd_getR clsX4 (f := 1) (by decide) (fun _ _ _ => rfl) mw_381 dX4_hoursOf_13 (sd_iload_n (i := 1) rfl dX4_hoursOf_16 (sd_iaload dX4_hoursOf_17 (sd_goto (tgt := 22) (by decide) dX4_hoursOf_18 (sd_iret (ty := .int) rfl (by decide) (by decide) dX4_hoursOf_22))))))))))) : Sd l E YX4_hoursOf (d + 1) 0 0 Q 0 0 0 (bX4_hoursOf_0 l E d Q)) ls st h hB
theorem eX4_hoursOf {l : Launch} {E : Ev} {d : Nat} {Q : Option Value → Hp → Prop} {h : Hp} {a0 : Nat} {x1 : Int32} (hk : Go l E YX4_hoursOf d 0 0 Q 0 0 0 [some (.ref a0), some (.int x1)] [] h) : GoM l E YX4_hoursOf d 0 0 [.ref a0, .int x1] h Q := GoM.of (by decide +kernel) rfl (by simp [entA, YX4_hoursOf]) hk
theorem dX4_enoughSets_0 : decode cX4_enoughSets 0 = .ok (.iconst 0, 1) := by decide +kernel
theorem dX4_enoughSets_1 : decode cX4_enoughSets 1 = .ok (.istore_n 2, 1) := by decide +kernel
theorem dX4_enoughSets_2 : decode cX4_enoughSets 2 = .ok (.iconst 0, 1) := by decide +kernel
theorem dX4_enoughSets_3 : decode cX4_enoughSets 3 = .ok (.istore_n 3, 1) := by decide +kernel
theorem dX4_enoughSets_4 : decode cX4_enoughSets 4 = .ok (.iload_n 3, 1) := by decide +kernel
theorem dX4_enoughSets_5 : decode cX4_enoughSets 5 = .ok (.aload_n 0, 1) := by decide +kernel
theorem dX4_enoughSets_6 : decode cX4_enoughSets 6 = .ok (.getfield 42, 3) := by decide +kernel
theorem dX4_enoughSets_9 : decode cX4_enoughSets 9 = .ok (.if_icmp .ge 32, 3) := by decide +kernel
theorem dX4_enoughSets_12 : decode cX4_enoughSets 12 = .ok (.iload_n 2, 1) := by decide +kernel
theorem dX4_enoughSets_13 : decode cX4_enoughSets 13 = .ok (.aload_n 0, 1) := by decide +kernel
theorem dX4_enoughSets_14 : decode cX4_enoughSets 14 = .ok (.getfield 9, 3) := by decide +kernel
theorem dX4_enoughSets_17 : decode cX4_enoughSets 17 = .ok (.iload_n 1, 1) := by decide +kernel
theorem dX4_enoughSets_18 : decode cX4_enoughSets 18 = .ok (.sipush 128, 3) := by decide +kernel
theorem dX4_enoughSets_21 : decode cX4_enoughSets 21 = .ok (.imul, 1) := by decide +kernel
theorem dX4_enoughSets_22 : decode cX4_enoughSets 22 = .ok (.iload_n 3, 1) := by decide +kernel
theorem dX4_enoughSets_23 : decode cX4_enoughSets 23 = .ok (.iadd, 1) := by decide +kernel
theorem dX4_enoughSets_24 : decode cX4_enoughSets 24 = .ok (.baload, 1) := by decide +kernel
theorem dX4_enoughSets_25 : decode cX4_enoughSets 25 = .ok (.ifCond .eq 7, 3) := by decide +kernel
theorem dX4_enoughSets_28 : decode cX4_enoughSets 28 = .ok (.iconst 1, 1) := by decide +kernel
theorem dX4_enoughSets_29 : decode cX4_enoughSets 29 = .ok (.goto 4, 3) := by decide +kernel
theorem dX4_enoughSets_32 : decode cX4_enoughSets 32 = .ok (.iconst 0, 1) := by decide +kernel
theorem dX4_enoughSets_33 : decode cX4_enoughSets 33 = .ok (.iadd, 1) := by decide +kernel
theorem dX4_enoughSets_34 : decode cX4_enoughSets 34 = .ok (.istore_n 2, 1) := by decide +kernel
theorem dX4_enoughSets_35 : decode cX4_enoughSets 35 = .ok (.iinc 3 1, 3) := by decide +kernel
theorem dX4_enoughSets_38 : decode cX4_enoughSets 38 = .ok (.goto (-34), 3) := by decide +kernel
theorem dX4_enoughSets_41 : decode cX4_enoughSets 41 = .ok (.iload_n 2, 1) := by decide +kernel
theorem dX4_enoughSets_42 : decode cX4_enoughSets 42 = .ok (.ireturn, 1) := by decide +kernel
def bX4_enoughSets_0 (l : Launch) (E : Ev) (d : Nat) (Q : Option Value → Hp → Prop) : Kt := k_push (.int 0) (k_istore 2 (k_push (.int 0) (k_istore 3 (Go l E YX4_enoughSets (d + 1) 0 0 Q 0 0 4))))
set_option maxRecDepth 100000 in
set_option maxHeartbeats 4000000 in
theorem gX4_enoughSets_0 {l : Launch} {E : Ev} {d : Nat} {Q : Option Value → Hp → Prop} {ls : Lv} {st : List Value} {h : Hp} (hB : bX4_enoughSets_0 l E d Q ls st h) : Go l E YX4_enoughSets (d + 1) 0 0 Q 0 0 0 ls st h :=
  (sd_iconst (v := 0) (by decide) dX4_enoughSets_0 (sd_istore_n (i := 2) rfl (by decide) dX4_enoughSets_1 (sd_iconst (v := 0) (by decide) dX4_enoughSets_2 (sd_istore_n (i := 3) rfl (by decide) dX4_enoughSets_3 (Sd.go)))) : Sd l E YX4_enoughSets (d + 1) 0 0 Q 0 0 0 (bX4_enoughSets_0 l E d Q)) ls st h hB
def bX4_enoughSets_4 (l : Launch) (E : Ev) (d : Nat) (Q : Option Value → Hp → Prop) : Kt := k_iload 3 (k_aload 0 (k_getI 4 5 4 (k_icmp_ge (k_iload 2 (k_iret .int Q)) (k_iload 2 (k_aload 0 (k_getR 4 5 0 (k_iload 1 (k_push (.int 128) (k_imul (k_iload 3 (k_iadd (k_zaload (k_if_eq (k_push (.int 0) (k_iadd (k_istore 2 (k_iinc 3 1 (Go l E YX4_enoughSets (d + 1) 0 0 Q 0 0 4))))) (k_push (.int 1) (k_iadd (k_istore 2 (k_iinc 3 1 (Go l E YX4_enoughSets (d + 1) 0 0 Q 0 0 4))))))))))))))))))
set_option maxRecDepth 100000 in
set_option maxHeartbeats 4000000 in
theorem gX4_enoughSets_4 {l : Launch} {E : Ev} {d : Nat} {Q : Option Value → Hp → Prop} {ls : Lv} {st : List Value} {h : Hp} (hB : bX4_enoughSets_4 l E d Q ls st h) : Go l E YX4_enoughSets (d + 1) 0 0 Q 0 0 4 ls st h :=
  (sd_iload_n (i := 3) rfl dX4_enoughSets_4 (sd_aload_n (i := 0) rfl dX4_enoughSets_5 (sd_getI clsX4 (f := 4) (by decide) (fun _ _ _ => rfl) mw_384 dX4_enoughSets_6 (sd_icmp_ge (tgt := 41) (by decide) dX4_enoughSets_9 (sd_iload_n (i := 2) rfl dX4_enoughSets_41 (sd_iret (ty := .int) rfl (by decide) (by decide) dX4_enoughSets_42)) (sd_iload_n (i := 2) rfl dX4_enoughSets_12 (sd_aload_n (i := 0) rfl dX4_enoughSets_13 (sd_getR clsX4 (f := 0) (by decide) (fun _ _ _ => rfl) mw_379 dX4_enoughSets_14 (sd_iload_n (i := 1) rfl dX4_enoughSets_17 (sd_sipush (v := 128) (by decide) dX4_enoughSets_18 (sd_imul dX4_enoughSets_21 (sd_iload_n (i := 3) rfl dX4_enoughSets_22 (sd_iadd dX4_enoughSets_23 (sd_zaload dX4_enoughSets_24 (sd_if_eq (tgt := 32) (by decide) dX4_enoughSets_25 (sd_iconst (v := 0) (by decide) dX4_enoughSets_32 (sd_iadd dX4_enoughSets_33 (sd_istore_n (i := 2) rfl (by decide) dX4_enoughSets_34 (sd_iinc (i := 3) (v := 1) (by decide) (by decide) dX4_enoughSets_35 (sd_goto (tgt := 4) (by decide) dX4_enoughSets_38 (Sd.go)))))) (sd_iconst (v := 1) (by decide) dX4_enoughSets_28 (sd_goto (tgt := 33) (by decide) dX4_enoughSets_29 (sd_iadd dX4_enoughSets_33 (sd_istore_n (i := 2) rfl (by decide) dX4_enoughSets_34 (sd_iinc (i := 3) (v := 1) (by decide) (by decide) dX4_enoughSets_35 (sd_goto (tgt := 4) (by decide) dX4_enoughSets_38 (Sd.go)))))))))))))))))))) : Sd l E YX4_enoughSets (d + 1) 0 0 Q 0 0 4 (bX4_enoughSets_4 l E d Q)) ls st h hB
theorem eX4_enoughSets {l : Launch} {E : Ev} {d : Nat} {Q : Option Value → Hp → Prop} {h : Hp} {a0 : Nat} {x1 : Int32} (hk : Go l E YX4_enoughSets d 0 0 Q 0 0 0 [some (.ref a0), some (.int x1), none, none] [] h) : GoM l E YX4_enoughSets d 0 0 [.ref a0, .int x1] h Q := GoM.of (by decide +kernel) rfl (by simp [entA, YX4_enoughSets]) hk
