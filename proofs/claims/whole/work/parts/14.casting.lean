theorem dX0_init_0 : decode cX0_init 0 = .ok (.aload_n 0, 1) := by decide +kernel
theorem dX0_init_1 : decode cX0_init 1 = .ok (.invokespecial 3, 3) := by decide +kernel
theorem dX0_init_4 : decode cX0_init 4 = .ok (.aload_n 0, 1) := by decide +kernel
theorem dX0_init_5 : decode cX0_init 5 = .ok (.bipush 8, 2) := by decide +kernel
theorem dX0_init_7 : decode cX0_init 7 = .ok (.newarray .int, 2) := by decide +kernel
theorem dX0_init_9 : decode cX0_init 9 = .ok (.putfield 9, 3) := by decide +kernel
theorem dX0_init_12 : decode cX0_init 12 = .ok (.aload_n 0, 1) := by decide +kernel
theorem dX0_init_13 : decode cX0_init 13 = .ok (.bipush 64, 2) := by decide +kernel
theorem dX0_init_15 : decode cX0_init 15 = .ok (.newarray .int, 2) := by decide +kernel
theorem dX0_init_17 : decode cX0_init 17 = .ok (.putfield 15, 3) := by decide +kernel
theorem dX0_init_20 : decode cX0_init 20 = .ok (.aload_n 0, 1) := by decide +kernel
theorem dX0_init_21 : decode cX0_init 21 = .ok (.bipush 8, 2) := by decide +kernel
theorem dX0_init_23 : decode cX0_init 23 = .ok (.newarray .int, 2) := by decide +kernel
theorem dX0_init_25 : decode cX0_init 25 = .ok (.putfield 18, 3) := by decide +kernel
theorem dX0_init_28 : decode cX0_init 28 = .ok (.aload_n 0, 1) := by decide +kernel
theorem dX0_init_29 : decode cX0_init 29 = .ok (.bipush 10, 2) := by decide +kernel
theorem dX0_init_31 : decode cX0_init 31 = .ok (.newarray .int, 2) := by decide +kernel
theorem dX0_init_33 : decode cX0_init 33 = .ok (.putfield 21, 3) := by decide +kernel
theorem dX0_init_36 : decode cX0_init 36 = .ok (.aload_n 0, 1) := by decide +kernel
theorem dX0_init_37 : decode cX0_init 37 = .ok (.bipush 32, 2) := by decide +kernel
theorem dX0_init_39 : decode cX0_init 39 = .ok (.newarray .int, 2) := by decide +kernel
theorem dX0_init_41 : decode cX0_init 41 = .ok (.putfield 26, 3) := by decide +kernel
theorem dX0_init_44 : decode cX0_init 44 = .ok (.return_, 1) := by decide +kernel
def bX0_init_0 (l : Launch) (E : Ev) (d : Nat) (Q : Option Value → Hp → Prop) : Kt := k_aload 0 (k_objInit (k_aload 0 (k_push (.int 8) (k_newarr 1 8 (k_putR 0 7 2 (k_aload 0 (k_push (.int 64) (k_newarr 1 64 (k_putR 0 7 3 (k_aload 0 (k_push (.int 8) (k_newarr 1 8 (k_putR 0 7 4 (k_aload 0 (k_push (.int 10) (k_newarr 1 10 (k_putR 0 7 5 (k_aload 0 (k_push (.int 32) (k_newarr 1 32 (k_putR 0 7 6 (k_vret Q))))))))))))))))))))))
set_option maxRecDepth 100000 in
set_option maxHeartbeats 4000000 in
theorem gX0_init_0 {l : Launch} {E : Ev} {d : Nat} {Q : Option Value → Hp → Prop} {ls : Lv} {st : List Value} {h : Hp} (hB : bX0_init_0 l E d Q ls st h) : Go l E YX0_init (d + 1) 5 122 Q 0 0 0 ls st h :=
  (sd_aload_n (i := 0) rfl dX0_init_0 (sd_objInit mw_266 mw_125 mw_126 (by omega) dX0_init_1 (sd_aload_n (i := 0) rfl dX0_init_4 (sd_bipush (v := 8) (by decide) dX0_init_5 (sd_newarr (at' := .int) (ki := 1) (B := 8) (by decide) mw_214 (by decide) (by decide) (by decide) dX0_init_7 (sd_putR clsX0 (f := 2) (by decide) (fun _ _ _ => rfl) rfl (Or.inr ⟨rfl, rfl, rfl⟩) mw_273 dX0_init_9 (sd_aload_n (i := 0) rfl dX0_init_12 (sd_bipush (v := 64) (by decide) dX0_init_13 (sd_newarr (at' := .int) (ki := 1) (B := 64) (by decide) mw_214 (by decide) (by decide) (by decide) dX0_init_15 (sd_putR clsX0 (f := 3) (by decide) (fun _ _ _ => rfl) rfl (Or.inr ⟨rfl, rfl, rfl⟩) mw_278 dX0_init_17 (sd_aload_n (i := 0) rfl dX0_init_20 (sd_bipush (v := 8) (by decide) dX0_init_21 (sd_newarr (at' := .int) (ki := 1) (B := 8) (by decide) mw_214 (by decide) (by decide) (by decide) dX0_init_23 (sd_putR clsX0 (f := 4) (by decide) (fun _ _ _ => rfl) rfl (Or.inr ⟨rfl, rfl, rfl⟩) mw_281 dX0_init_25 (sd_aload_n (i := 0) rfl dX0_init_28 (sd_bipush (v := 10) (by decide) dX0_init_29 (sd_newarr (at' := .int) (ki := 1) (B := 10) (by decide) mw_214 (by decide) (by decide) (by decide) dX0_init_31 (sd_putR clsX0 (f := 5) (by decide) (fun _ _ _ => rfl) rfl (Or.inr ⟨rfl, rfl, rfl⟩) mw_285 dX0_init_33 (sd_aload_n (i := 0) rfl dX0_init_36 (sd_bipush (v := 32) (by decide) dX0_init_37 (sd_newarr (at' := .int) (ki := 1) (B := 32) (by decide) mw_214 (by decide) (by decide) (by decide) dX0_init_39 (sd_putR clsX0 (f := 6) (by decide) (fun _ _ _ => rfl) rfl (Or.inr ⟨rfl, rfl, rfl⟩) mw_286 dX0_init_41 (sd_vret rfl (by decide) (by decide) dX0_init_44)))))))))))))))))))))) : Sd l E YX0_init (d + 1) 5 122 Q 0 0 0 (bX0_init_0 l E d Q)) ls st h hB
theorem eX0_init {l : Launch} {E : Ev} {d : Nat} {Q : Option Value → Hp → Prop} {h : Hp} {a0 : Nat} (hk : Go l E YX0_init d 5 122 Q 0 0 0 [some (.ref a0)] [] h) : GoM l E YX0_init d 5 122 [.ref a0] h Q := GoM.of (by decide +kernel) rfl (by simp [entA, YX0_init]) hk
theorem dX0_fillAble_0 : decode cX0_fillAble 0 = .ok (.aload_n 0, 1) := by decide +kernel
theorem dX0_fillAble_1 : decode cX0_fillAble 1 = .ok (.aload_n 1, 1) := by decide +kernel
theorem dX0_fillAble_2 : decode cX0_fillAble 2 = .ok (.getfield 29, 3) := by decide +kernel
theorem dX0_fillAble_5 : decode cX0_fillAble 5 = .ok (.putfield 35, 3) := by decide +kernel
theorem dX0_fillAble_8 : decode cX0_fillAble 8 = .ok (.aload_n 0, 1) := by decide +kernel
theorem dX0_fillAble_9 : decode cX0_fillAble 9 = .ok (.aload_n 1, 1) := by decide +kernel
theorem dX0_fillAble_10 : decode cX0_fillAble 10 = .ok (.getfield 36, 3) := by decide +kernel
theorem dX0_fillAble_13 : decode cX0_fillAble 13 = .ok (.putfield 39, 3) := by decide +kernel
theorem dX0_fillAble_16 : decode cX0_fillAble 16 = .ok (.iconst 0, 1) := by decide +kernel
theorem dX0_fillAble_17 : decode cX0_fillAble 17 = .ok (.istore 4, 2) := by decide +kernel
theorem dX0_fillAble_19 : decode cX0_fillAble 19 = .ok (.iload 4, 2) := by decide +kernel
theorem dX0_fillAble_21 : decode cX0_fillAble 21 = .ok (.aload_n 0, 1) := by decide +kernel
theorem dX0_fillAble_22 : decode cX0_fillAble 22 = .ok (.getfield 39, 3) := by decide +kernel
theorem dX0_fillAble_25 : decode cX0_fillAble 25 = .ok (.if_icmp .ge 36, 3) := by decide +kernel
theorem dX0_fillAble_28 : decode cX0_fillAble 28 = .ok (.aload_n 0, 1) := by decide +kernel
theorem dX0_fillAble_29 : decode cX0_fillAble 29 = .ok (.getfield 18, 3) := by decide +kernel
theorem dX0_fillAble_32 : decode cX0_fillAble 32 = .ok (.iload 4, 2) := by decide +kernel
theorem dX0_fillAble_34 : decode cX0_fillAble 34 = .ok (.aload_n 1, 1) := by decide +kernel
theorem dX0_fillAble_35 : decode cX0_fillAble 35 = .ok (.getfield 40, 3) := by decide +kernel
theorem dX0_fillAble_38 : decode cX0_fillAble 38 = .ok (.iconst 1, 1) := by decide +kernel
theorem dX0_fillAble_39 : decode cX0_fillAble 39 = .ok (.iaload, 1) := by decide +kernel
theorem dX0_fillAble_40 : decode cX0_fillAble 40 = .ok (.iconst 1, 1) := by decide +kernel
theorem dX0_fillAble_41 : decode cX0_fillAble 41 = .ok (.if_icmp .ne 12, 3) := by decide +kernel
theorem dX0_fillAble_44 : decode cX0_fillAble 44 = .ok (.aload_n 1, 1) := by decide +kernel
theorem dX0_fillAble_45 : decode cX0_fillAble 45 = .ok (.iload 4, 2) := by decide +kernel
theorem dX0_fillAble_47 : decode cX0_fillAble 47 = .ok (.invokestatic 43, 3) := by decide +kernel
theorem dX0_fillAble_50 : decode cX0_fillAble 50 = .ok (.goto 4, 3) := by decide +kernel
theorem dX0_fillAble_53 : decode cX0_fillAble 53 = .ok (.iconst 0, 1) := by decide +kernel
theorem dX0_fillAble_54 : decode cX0_fillAble 54 = .ok (.iastore, 1) := by decide +kernel
theorem dX0_fillAble_55 : decode cX0_fillAble 55 = .ok (.iinc 4 1, 3) := by decide +kernel
theorem dX0_fillAble_58 : decode cX0_fillAble 58 = .ok (.goto (-39), 3) := by decide +kernel
theorem dX0_fillAble_61 : decode cX0_fillAble 61 = .ok (.iconst 0, 1) := by decide +kernel
theorem dX0_fillAble_62 : decode cX0_fillAble 62 = .ok (.istore 4, 2) := by decide +kernel
theorem dX0_fillAble_64 : decode cX0_fillAble 64 = .ok (.iload 4, 2) := by decide +kernel
theorem dX0_fillAble_66 : decode cX0_fillAble 66 = .ok (.aload_n 0, 1) := by decide +kernel
theorem dX0_fillAble_67 : decode cX0_fillAble 67 = .ok (.getfield 35, 3) := by decide +kernel
theorem dX0_fillAble_70 : decode cX0_fillAble 70 = .ok (.if_icmp .ge 77, 3) := by decide +kernel
theorem dX0_fillAble_73 : decode cX0_fillAble 73 = .ok (.aload_n 0, 1) := by decide +kernel
theorem dX0_fillAble_74 : decode cX0_fillAble 74 = .ok (.getfield 9, 3) := by decide +kernel
theorem dX0_fillAble_77 : decode cX0_fillAble 77 = .ok (.iload 4, 2) := by decide +kernel
theorem dX0_fillAble_79 : decode cX0_fillAble 79 = .ok (.iconst 0, 1) := by decide +kernel
theorem dX0_fillAble_80 : decode cX0_fillAble 80 = .ok (.iastore, 1) := by decide +kernel
theorem dX0_fillAble_81 : decode cX0_fillAble 81 = .ok (.iconst 0, 1) := by decide +kernel
theorem dX0_fillAble_82 : decode cX0_fillAble 82 = .ok (.istore 5, 2) := by decide +kernel
theorem dX0_fillAble_84 : decode cX0_fillAble 84 = .ok (.iload 5, 2) := by decide +kernel
theorem dX0_fillAble_86 : decode cX0_fillAble 86 = .ok (.aload_n 0, 1) := by decide +kernel
theorem dX0_fillAble_87 : decode cX0_fillAble 87 = .ok (.getfield 39, 3) := by decide +kernel
theorem dX0_fillAble_90 : decode cX0_fillAble 90 = .ok (.if_icmp .ge 51, 3) := by decide +kernel
theorem dX0_fillAble_93 : decode cX0_fillAble 93 = .ok (.aload_n 0, 1) := by decide +kernel
theorem dX0_fillAble_94 : decode cX0_fillAble 94 = .ok (.aload_n 1, 1) := by decide +kernel
theorem dX0_fillAble_95 : decode cX0_fillAble 95 = .ok (.iload 4, 2) := by decide +kernel
theorem dX0_fillAble_97 : decode cX0_fillAble 97 = .ok (.iload 5, 2) := by decide +kernel
theorem dX0_fillAble_99 : decode cX0_fillAble 99 = .ok (.aload_n 2, 1) := by decide +kernel
theorem dX0_fillAble_100 : decode cX0_fillAble 100 = .ok (.iload 4, 2) := by decide +kernel
theorem dX0_fillAble_102 : decode cX0_fillAble 102 = .ok (.bipush 8, 2) := by decide +kernel
theorem dX0_fillAble_104 : decode cX0_fillAble 104 = .ok (.imul, 1) := by decide +kernel
theorem dX0_fillAble_105 : decode cX0_fillAble 105 = .ok (.iload 5, 2) := by decide +kernel
theorem dX0_fillAble_107 : decode cX0_fillAble 107 = .ok (.iadd, 1) := by decide +kernel
theorem dX0_fillAble_108 : decode cX0_fillAble 108 = .ok (.iaload, 1) := by decide +kernel
theorem dX0_fillAble_109 : decode cX0_fillAble 109 = .ok (.iload_n 3, 1) := by decide +kernel
theorem dX0_fillAble_110 : decode cX0_fillAble 110 = .ok (.invokevirtual 47, 3) := by decide +kernel
theorem dX0_fillAble_113 : decode cX0_fillAble 113 = .ok (.aload_n 0, 1) := by decide +kernel
theorem dX0_fillAble_114 : decode cX0_fillAble 114 = .ok (.aload_n 1, 1) := by decide +kernel
theorem dX0_fillAble_115 : decode cX0_fillAble 115 = .ok (.invokevirtual 51, 3) := by decide +kernel
theorem dX0_fillAble_118 : decode cX0_fillAble 118 = .ok (.ifCond .eq 17, 3) := by decide +kernel
theorem dX0_fillAble_121 : decode cX0_fillAble 121 = .ok (.aload_n 0, 1) := by decide +kernel
theorem dX0_fillAble_122 : decode cX0_fillAble 122 = .ok (.getfield 9, 3) := by decide +kernel
theorem dX0_fillAble_125 : decode cX0_fillAble 125 = .ok (.iload 4, 2) := by decide +kernel
theorem dX0_fillAble_127 : decode cX0_fillAble 127 = .ok (.dup2, 1) := by decide +kernel
theorem dX0_fillAble_128 : decode cX0_fillAble 128 = .ok (.iaload, 1) := by decide +kernel
theorem dX0_fillAble_129 : decode cX0_fillAble 129 = .ok (.iconst 1, 1) := by decide +kernel
theorem dX0_fillAble_130 : decode cX0_fillAble 130 = .ok (.iload 5, 2) := by decide +kernel
theorem dX0_fillAble_132 : decode cX0_fillAble 132 = .ok (.ishl, 1) := by decide +kernel
theorem dX0_fillAble_133 : decode cX0_fillAble 133 = .ok (.ior, 1) := by decide +kernel
theorem dX0_fillAble_134 : decode cX0_fillAble 134 = .ok (.iastore, 1) := by decide +kernel
theorem dX0_fillAble_135 : decode cX0_fillAble 135 = .ok (.iinc 5 1, 3) := by decide +kernel
theorem dX0_fillAble_138 : decode cX0_fillAble 138 = .ok (.goto (-54), 3) := by decide +kernel
theorem dX0_fillAble_141 : decode cX0_fillAble 141 = .ok (.iinc 4 1, 3) := by decide +kernel
theorem dX0_fillAble_144 : decode cX0_fillAble 144 = .ok (.goto (-80), 3) := by decide +kernel
theorem dX0_fillAble_147 : decode cX0_fillAble 147 = .ok (.return_, 1) := by decide +kernel
def bX0_fillAble_0 (l : Launch) (E : Ev) (d : Nat) (Q : Option Value → Hp → Prop) : Kt := k_aload 0 (k_aload 1 (k_getI 7 15 0 (k_putI 0 7 0 (k_aload 0 (k_aload 1 (k_getI 7 15 1 (k_putI 0 7 1 (k_push (.int 0) (k_istore 4 (Go l E YX0_fillAble (d + 1) 0 0 Q 0 0 19))))))))))
set_option maxRecDepth 100000 in
set_option maxHeartbeats 4000000 in
theorem gX0_fillAble_0 {l : Launch} {E : Ev} {d : Nat} {Q : Option Value → Hp → Prop} {ls : Lv} {st : List Value} {h : Hp} (hB : bX0_fillAble_0 l E d Q ls st h) : Go l E YX0_fillAble (d + 1) 0 0 Q 0 0 0 ls st h :=
  (sd_aload_n (i := 0) rfl dX0_fillAble_0 (sd_aload_n (i := 1) rfl dX0_fillAble_1 (sd_getI clsX7 (f := 0) (by decide) (fun _ _ _ => rfl) mw_135 dX0_fillAble_2 (sd_putI clsX0 (f := 0) (by decide) (fun _ _ _ => rfl) rfl (Or.inl rfl) mw_267 dX0_fillAble_5 (sd_aload_n (i := 0) rfl dX0_fillAble_8 (sd_aload_n (i := 1) rfl dX0_fillAble_9 (sd_getI clsX7 (f := 1) (by decide) (fun _ _ _ => rfl) mw_140 dX0_fillAble_10 (sd_putI clsX0 (f := 1) (by decide) (fun _ _ _ => rfl) rfl (Or.inl rfl) mw_270 dX0_fillAble_13 (sd_iconst (v := 0) (by decide) dX0_fillAble_16 (sd_istore (i := 4) (by decide) dX0_fillAble_17 (Sd.go)))))))))) : Sd l E YX0_fillAble (d + 1) 0 0 Q 0 0 0 (bX0_fillAble_0 l E d Q)) ls st h hB
def bX0_fillAble_19 (l : Launch) (E : Ev) (d : Nat) (Q : Option Value → Hp → Prop) : Kt := k_iload 4 (k_aload 0 (k_getI 0 7 1 (k_icmp_ge (k_push (.int 0) (k_istore 4 (Go l E YX0_fillAble (d + 1) 0 0 Q 0 0 64))) (k_aload 0 (k_getR 0 7 4 (k_iload 4 (k_aload 1 (k_getR 7 15 7 (k_push (.int 1) (k_iaload (k_push (.int 1) (k_icmp_ne (k_push (.int 0) (k_iastore (k_iinc 4 1 (Go l E YX0_fillAble (d + 1) 0 0 Q 0 0 19)))) (k_aload 1 (k_iload 4 (k_callS l E YX0_apartFrom d 0 0 2 (k_iastore (k_iinc 4 1 (Go l E YX0_fillAble (d + 1) 0 0 Q 0 0 19))))))))))))))))))
set_option maxRecDepth 100000 in
set_option maxHeartbeats 4000000 in
theorem gX0_fillAble_19 {l : Launch} {E : Ev} {d : Nat} {Q : Option Value → Hp → Prop} {ls : Lv} {st : List Value} {h : Hp} (hB : bX0_fillAble_19 l E d Q ls st h) : Go l E YX0_fillAble (d + 1) 0 0 Q 0 0 19 ls st h :=
  (sd_iload (n := 4) dX0_fillAble_19 (sd_aload_n (i := 0) rfl dX0_fillAble_21 (sd_getI clsX0 (f := 1) (by decide) (fun _ _ _ => rfl) mw_270 dX0_fillAble_22 (sd_icmp_ge (tgt := 61) (by decide) dX0_fillAble_25 (sd_iconst (v := 0) (by decide) dX0_fillAble_61 (sd_istore (i := 4) (by decide) dX0_fillAble_62 (Sd.go))) (sd_aload_n (i := 0) rfl dX0_fillAble_28 (sd_getR clsX0 (f := 4) (by decide) (fun _ _ _ => rfl) mw_281 dX0_fillAble_29 (sd_iload (n := 4) dX0_fillAble_32 (sd_aload_n (i := 1) rfl dX0_fillAble_34 (sd_getR clsX7 (f := 7) (by decide) (fun _ _ _ => rfl) mw_163 dX0_fillAble_35 (sd_iconst (v := 1) (by decide) dX0_fillAble_38 (sd_iaload dX0_fillAble_39 (sd_iconst (v := 1) (by decide) dX0_fillAble_40 (sd_icmp_ne (tgt := 53) (by decide) dX0_fillAble_41 (sd_iconst (v := 0) (by decide) dX0_fillAble_53 (sd_iastore dX0_fillAble_54 (sd_iinc (i := 4) (v := 1) (by decide) (by decide) dX0_fillAble_55 (sd_goto (tgt := 19) (by decide) dX0_fillAble_58 (Sd.go))))) (sd_aload_n (i := 1) rfl dX0_fillAble_44 (sd_iload (n := 4) dX0_fillAble_45 (sd_callS (Y' := YX0_apartFrom) (mc' := 0) (ms' := 0) (n := 2) mw_780 mw_781 mw_103 mw_782 (okmX0_apartFrom) (by decide) (Nat.le_refl _) (by decide) (by decide) dX0_fillAble_47 (sd_goto (tgt := 54) (by decide) dX0_fillAble_50 (sd_iastore dX0_fillAble_54 (sd_iinc (i := 4) (v := 1) (by decide) (by decide) dX0_fillAble_55 (sd_goto (tgt := 19) (by decide) dX0_fillAble_58 (Sd.go)))))))))))))))))))) : Sd l E YX0_fillAble (d + 1) 0 0 Q 0 0 19 (bX0_fillAble_19 l E d Q)) ls st h hB
def bX0_fillAble_64 (l : Launch) (E : Ev) (d : Nat) (Q : Option Value → Hp → Prop) : Kt := k_iload 4 (k_aload 0 (k_getI 0 7 0 (k_icmp_ge (k_vret Q) (k_aload 0 (k_getR 0 7 2 (k_iload 4 (k_push (.int 0) (k_iastore (k_push (.int 0) (k_istore 5 (Go l E YX0_fillAble (d + 1) 0 0 Q 0 0 84)))))))))))
set_option maxRecDepth 100000 in
set_option maxHeartbeats 4000000 in
theorem gX0_fillAble_64 {l : Launch} {E : Ev} {d : Nat} {Q : Option Value → Hp → Prop} {ls : Lv} {st : List Value} {h : Hp} (hB : bX0_fillAble_64 l E d Q ls st h) : Go l E YX0_fillAble (d + 1) 0 0 Q 0 0 64 ls st h :=
  (sd_iload (n := 4) dX0_fillAble_64 (sd_aload_n (i := 0) rfl dX0_fillAble_66 (sd_getI clsX0 (f := 0) (by decide) (fun _ _ _ => rfl) mw_267 dX0_fillAble_67 (sd_icmp_ge (tgt := 147) (by decide) dX0_fillAble_70 (sd_vret rfl (by decide) (by decide) dX0_fillAble_147) (sd_aload_n (i := 0) rfl dX0_fillAble_73 (sd_getR clsX0 (f := 2) (by decide) (fun _ _ _ => rfl) mw_273 dX0_fillAble_74 (sd_iload (n := 4) dX0_fillAble_77 (sd_iconst (v := 0) (by decide) dX0_fillAble_79 (sd_iastore dX0_fillAble_80 (sd_iconst (v := 0) (by decide) dX0_fillAble_81 (sd_istore (i := 5) (by decide) dX0_fillAble_82 (Sd.go))))))))))) : Sd l E YX0_fillAble (d + 1) 0 0 Q 0 0 64 (bX0_fillAble_64 l E d Q)) ls st h hB
def bX0_fillAble_84 (l : Launch) (E : Ev) (d : Nat) (Q : Option Value → Hp → Prop) : Kt := k_iload 5 (k_aload 0 (k_getI 0 7 1 (k_icmp_ge (k_iinc 4 1 (Go l E YX0_fillAble (d + 1) 0 0 Q 0 0 64)) (k_aload 0 (k_aload 1 (k_iload 4 (k_iload 5 (k_aload 2 (k_iload 4 (k_push (.int 8) (k_imul (k_iload 5 (k_iadd (k_iaload (k_iload 3 (k_callV l E 0 7 YX0_ask d 0 0 5 (k_aload 0 (k_aload 1 (k_callV l E 0 7 YX0_canPlay d 0 0 1 (k_if_eq (k_iinc 5 1 (Go l E YX0_fillAble (d + 1) 0 0 Q 0 0 84)) (k_aload 0 (k_getR 0 7 2 (k_iload 4 (k_dup2 (k_iaload (k_push (.int 1) (k_iload 5 (k_ishl (k_ior (k_iastore (k_iinc 5 1 (Go l E YX0_fillAble (d + 1) 0 0 Q 0 0 84))))))))))))))))))))))))))))))))
set_option maxRecDepth 100000 in
set_option maxHeartbeats 4000000 in
theorem gX0_fillAble_84 {l : Launch} {E : Ev} {d : Nat} {Q : Option Value → Hp → Prop} {ls : Lv} {st : List Value} {h : Hp} (hB : bX0_fillAble_84 l E d Q ls st h) : Go l E YX0_fillAble (d + 1) 0 0 Q 0 0 84 ls st h :=
  (sd_iload (n := 5) dX0_fillAble_84 (sd_aload_n (i := 0) rfl dX0_fillAble_86 (sd_getI clsX0 (f := 1) (by decide) (fun _ _ _ => rfl) mw_270 dX0_fillAble_87 (sd_icmp_ge (tgt := 141) (by decide) dX0_fillAble_90 (sd_iinc (i := 4) (v := 1) (by decide) (by decide) dX0_fillAble_141 (sd_goto (tgt := 64) (by decide) dX0_fillAble_144 (Sd.go))) (sd_aload_n (i := 0) rfl dX0_fillAble_93 (sd_aload_n (i := 1) rfl dX0_fillAble_94 (sd_iload (n := 4) dX0_fillAble_95 (sd_iload (n := 5) dX0_fillAble_97 (sd_aload_n (i := 2) rfl dX0_fillAble_99 (sd_iload (n := 4) dX0_fillAble_100 (sd_bipush (v := 8) (by decide) dX0_fillAble_102 (sd_imul dX0_fillAble_104 (sd_iload (n := 5) dX0_fillAble_105 (sd_iadd dX0_fillAble_107 (sd_iaload dX0_fillAble_108 (sd_iload_n (i := 3) rfl dX0_fillAble_109 (sd_callV (Y' := YX0_ask) (mc' := 0) (ms' := 0) (n := 5) clsX0.1 mw_783 mw_552 mw_553 mw_103 mw_554 rfl (okmX0_ask) (by decide) (Nat.le_refl _) (by decide) (by decide) dX0_fillAble_110 (sd_aload_n (i := 0) rfl dX0_fillAble_113 (sd_aload_n (i := 1) rfl dX0_fillAble_114 (sd_callV (Y' := YX0_canPlay) (mc' := 0) (ms' := 0) (n := 1) clsX0.1 mw_784 mw_556 mw_557 mw_103 mw_558 rfl (okmX0_canPlay) (by decide) (Nat.le_refl _) (by decide) (by decide) dX0_fillAble_115 (sd_if_eq (tgt := 135) (by decide) dX0_fillAble_118 (sd_iinc (i := 5) (v := 1) (by decide) (by decide) dX0_fillAble_135 (sd_goto (tgt := 84) (by decide) dX0_fillAble_138 (Sd.go))) (sd_aload_n (i := 0) rfl dX0_fillAble_121 (sd_getR clsX0 (f := 2) (by decide) (fun _ _ _ => rfl) mw_273 dX0_fillAble_122 (sd_iload (n := 4) dX0_fillAble_125 (sd_dup2 dX0_fillAble_127 (sd_iaload dX0_fillAble_128 (sd_iconst (v := 1) (by decide) dX0_fillAble_129 (sd_iload (n := 5) dX0_fillAble_130 (sd_ishl dX0_fillAble_132 (sd_ior dX0_fillAble_133 (sd_iastore dX0_fillAble_134 (sd_iinc (i := 5) (v := 1) (by decide) (by decide) dX0_fillAble_135 (sd_goto (tgt := 84) (by decide) dX0_fillAble_138 (Sd.go))))))))))))))))))))))))))))))))) : Sd l E YX0_fillAble (d + 1) 0 0 Q 0 0 84 (bX0_fillAble_84 l E d Q)) ls st h hB
theorem eX0_fillAble {l : Launch} {E : Ev} {d : Nat} {Q : Option Value → Hp → Prop} {h : Hp} {a0 : Nat} {x1 : Nat} {x2 : Nat} {x3 : Int32} (hk : Go l E YX0_fillAble d 0 0 Q 0 0 0 [some (.ref a0), some (.ref x1), some (.ref x2), some (.int x3), none, none] [] h) : GoM l E YX0_fillAble d 0 0 [.ref a0, .ref x1, .ref x2, .int x3] h Q := GoM.of (by decide +kernel) rfl (by simp [entA, YX0_fillAble]) hk
theorem dX0_fillCosts_0 : decode cX0_fillCosts 0 = .ok (.iconst 0, 1) := by decide +kernel
theorem dX0_fillCosts_1 : decode cX0_fillCosts 1 = .ok (.istore 4, 2) := by decide +kernel
theorem dX0_fillCosts_3 : decode cX0_fillCosts 3 = .ok (.iload 4, 2) := by decide +kernel
theorem dX0_fillCosts_5 : decode cX0_fillCosts 5 = .ok (.aload_n 0, 1) := by decide +kernel
theorem dX0_fillCosts_6 : decode cX0_fillCosts 6 = .ok (.getfield 35, 3) := by decide +kernel
theorem dX0_fillCosts_9 : decode cX0_fillCosts 9 = .ok (.if_icmp .ge 63, 3) := by decide +kernel
theorem dX0_fillCosts_12 : decode cX0_fillCosts 12 = .ok (.iconst 0, 1) := by decide +kernel
theorem dX0_fillCosts_13 : decode cX0_fillCosts 13 = .ok (.istore 5, 2) := by decide +kernel
theorem dX0_fillCosts_15 : decode cX0_fillCosts 15 = .ok (.iload 5, 2) := by decide +kernel
theorem dX0_fillCosts_17 : decode cX0_fillCosts 17 = .ok (.aload_n 0, 1) := by decide +kernel
theorem dX0_fillCosts_18 : decode cX0_fillCosts 18 = .ok (.getfield 39, 3) := by decide +kernel
theorem dX0_fillCosts_21 : decode cX0_fillCosts 21 = .ok (.if_icmp .ge 45, 3) := by decide +kernel
theorem dX0_fillCosts_24 : decode cX0_fillCosts 24 = .ok (.iload 4, 2) := by decide +kernel
theorem dX0_fillCosts_26 : decode cX0_fillCosts 26 = .ok (.bipush 8, 2) := by decide +kernel
theorem dX0_fillCosts_28 : decode cX0_fillCosts 28 = .ok (.imul, 1) := by decide +kernel
theorem dX0_fillCosts_29 : decode cX0_fillCosts 29 = .ok (.iload 5, 2) := by decide +kernel
theorem dX0_fillCosts_31 : decode cX0_fillCosts 31 = .ok (.iadd, 1) := by decide +kernel
theorem dX0_fillCosts_32 : decode cX0_fillCosts 32 = .ok (.istore 6, 2) := by decide +kernel
theorem dX0_fillCosts_34 : decode cX0_fillCosts 34 = .ok (.aload_n 0, 1) := by decide +kernel
theorem dX0_fillCosts_35 : decode cX0_fillCosts 35 = .ok (.aload_n 1, 1) := by decide +kernel
theorem dX0_fillCosts_36 : decode cX0_fillCosts 36 = .ok (.iload 4, 2) := by decide +kernel
theorem dX0_fillCosts_38 : decode cX0_fillCosts 38 = .ok (.iload 5, 2) := by decide +kernel
theorem dX0_fillCosts_40 : decode cX0_fillCosts 40 = .ok (.aload_n 2, 1) := by decide +kernel
theorem dX0_fillCosts_41 : decode cX0_fillCosts 41 = .ok (.iload 6, 2) := by decide +kernel
theorem dX0_fillCosts_43 : decode cX0_fillCosts 43 = .ok (.iaload, 1) := by decide +kernel
theorem dX0_fillCosts_44 : decode cX0_fillCosts 44 = .ok (.iload_n 3, 1) := by decide +kernel
theorem dX0_fillCosts_45 : decode cX0_fillCosts 45 = .ok (.invokevirtual 47, 3) := by decide +kernel
theorem dX0_fillCosts_48 : decode cX0_fillCosts 48 = .ok (.aload_n 0, 1) := by decide +kernel
theorem dX0_fillCosts_49 : decode cX0_fillCosts 49 = .ok (.getfield 15, 3) := by decide +kernel
theorem dX0_fillCosts_52 : decode cX0_fillCosts 52 = .ok (.iload 6, 2) := by decide +kernel
theorem dX0_fillCosts_54 : decode cX0_fillCosts 54 = .ok (.aload_n 0, 1) := by decide +kernel
theorem dX0_fillCosts_55 : decode cX0_fillCosts 55 = .ok (.aload_n 1, 1) := by decide +kernel
theorem dX0_fillCosts_56 : decode cX0_fillCosts 56 = .ok (.invokevirtual 55, 3) := by decide +kernel
theorem dX0_fillCosts_59 : decode cX0_fillCosts 59 = .ok (.iastore, 1) := by decide +kernel
theorem dX0_fillCosts_60 : decode cX0_fillCosts 60 = .ok (.iinc 5 1, 3) := by decide +kernel
theorem dX0_fillCosts_63 : decode cX0_fillCosts 63 = .ok (.goto (-48), 3) := by decide +kernel
theorem dX0_fillCosts_66 : decode cX0_fillCosts 66 = .ok (.iinc 4 1, 3) := by decide +kernel
theorem dX0_fillCosts_69 : decode cX0_fillCosts 69 = .ok (.goto (-66), 3) := by decide +kernel
theorem dX0_fillCosts_72 : decode cX0_fillCosts 72 = .ok (.return_, 1) := by decide +kernel
def bX0_fillCosts_0 (l : Launch) (E : Ev) (d : Nat) (Q : Option Value → Hp → Prop) : Kt := k_push (.int 0) (k_istore 4 (Go l E YX0_fillCosts (d + 1) 0 0 Q 0 0 3))
set_option maxRecDepth 100000 in
set_option maxHeartbeats 4000000 in
theorem gX0_fillCosts_0 {l : Launch} {E : Ev} {d : Nat} {Q : Option Value → Hp → Prop} {ls : Lv} {st : List Value} {h : Hp} (hB : bX0_fillCosts_0 l E d Q ls st h) : Go l E YX0_fillCosts (d + 1) 0 0 Q 0 0 0 ls st h :=
  (sd_iconst (v := 0) (by decide) dX0_fillCosts_0 (sd_istore (i := 4) (by decide) dX0_fillCosts_1 (Sd.go)) : Sd l E YX0_fillCosts (d + 1) 0 0 Q 0 0 0 (bX0_fillCosts_0 l E d Q)) ls st h hB
def bX0_fillCosts_3 (l : Launch) (E : Ev) (d : Nat) (Q : Option Value → Hp → Prop) : Kt := k_iload 4 (k_aload 0 (k_getI 0 7 0 (k_icmp_ge (k_vret Q) (k_push (.int 0) (k_istore 5 (Go l E YX0_fillCosts (d + 1) 0 0 Q 0 0 15))))))
set_option maxRecDepth 100000 in
set_option maxHeartbeats 4000000 in
theorem gX0_fillCosts_3 {l : Launch} {E : Ev} {d : Nat} {Q : Option Value → Hp → Prop} {ls : Lv} {st : List Value} {h : Hp} (hB : bX0_fillCosts_3 l E d Q ls st h) : Go l E YX0_fillCosts (d + 1) 0 0 Q 0 0 3 ls st h :=
  (sd_iload (n := 4) dX0_fillCosts_3 (sd_aload_n (i := 0) rfl dX0_fillCosts_5 (sd_getI clsX0 (f := 0) (by decide) (fun _ _ _ => rfl) mw_267 dX0_fillCosts_6 (sd_icmp_ge (tgt := 72) (by decide) dX0_fillCosts_9 (sd_vret rfl (by decide) (by decide) dX0_fillCosts_72) (sd_iconst (v := 0) (by decide) dX0_fillCosts_12 (sd_istore (i := 5) (by decide) dX0_fillCosts_13 (Sd.go)))))) : Sd l E YX0_fillCosts (d + 1) 0 0 Q 0 0 3 (bX0_fillCosts_3 l E d Q)) ls st h hB
def bX0_fillCosts_15 (l : Launch) (E : Ev) (d : Nat) (Q : Option Value → Hp → Prop) : Kt := k_iload 5 (k_aload 0 (k_getI 0 7 1 (k_icmp_ge (k_iinc 4 1 (Go l E YX0_fillCosts (d + 1) 0 0 Q 0 0 3)) (k_iload 4 (k_push (.int 8) (k_imul (k_iload 5 (k_iadd (k_istore 6 (k_aload 0 (k_aload 1 (k_iload 4 (k_iload 5 (k_aload 2 (k_iload 6 (k_iaload (k_iload 3 (k_callV l E 0 7 YX0_ask d 0 0 5 (k_aload 0 (k_getR 0 7 3 (k_iload 6 (k_aload 0 (k_aload 1 (k_callV l E 0 7 YX0_price d 0 0 1 (k_iastore (k_iinc 5 1 (Go l E YX0_fillCosts (d + 1) 0 0 Q 0 0 15)))))))))))))))))))))))))))
set_option maxRecDepth 100000 in
set_option maxHeartbeats 4000000 in
theorem gX0_fillCosts_15 {l : Launch} {E : Ev} {d : Nat} {Q : Option Value → Hp → Prop} {ls : Lv} {st : List Value} {h : Hp} (hB : bX0_fillCosts_15 l E d Q ls st h) : Go l E YX0_fillCosts (d + 1) 0 0 Q 0 0 15 ls st h :=
  (sd_iload (n := 5) dX0_fillCosts_15 (sd_aload_n (i := 0) rfl dX0_fillCosts_17 (sd_getI clsX0 (f := 1) (by decide) (fun _ _ _ => rfl) mw_270 dX0_fillCosts_18 (sd_icmp_ge (tgt := 66) (by decide) dX0_fillCosts_21 (sd_iinc (i := 4) (v := 1) (by decide) (by decide) dX0_fillCosts_66 (sd_goto (tgt := 3) (by decide) dX0_fillCosts_69 (Sd.go))) (sd_iload (n := 4) dX0_fillCosts_24 (sd_bipush (v := 8) (by decide) dX0_fillCosts_26 (sd_imul dX0_fillCosts_28 (sd_iload (n := 5) dX0_fillCosts_29 (sd_iadd dX0_fillCosts_31 (sd_istore (i := 6) (by decide) dX0_fillCosts_32 (sd_aload_n (i := 0) rfl dX0_fillCosts_34 (sd_aload_n (i := 1) rfl dX0_fillCosts_35 (sd_iload (n := 4) dX0_fillCosts_36 (sd_iload (n := 5) dX0_fillCosts_38 (sd_aload_n (i := 2) rfl dX0_fillCosts_40 (sd_iload (n := 6) dX0_fillCosts_41 (sd_iaload dX0_fillCosts_43 (sd_iload_n (i := 3) rfl dX0_fillCosts_44 (sd_callV (Y' := YX0_ask) (mc' := 0) (ms' := 0) (n := 5) clsX0.1 mw_783 mw_552 mw_553 mw_103 mw_554 rfl (okmX0_ask) (by decide) (Nat.le_refl _) (by decide) (by decide) dX0_fillCosts_45 (sd_aload_n (i := 0) rfl dX0_fillCosts_48 (sd_getR clsX0 (f := 3) (by decide) (fun _ _ _ => rfl) mw_278 dX0_fillCosts_49 (sd_iload (n := 6) dX0_fillCosts_52 (sd_aload_n (i := 0) rfl dX0_fillCosts_54 (sd_aload_n (i := 1) rfl dX0_fillCosts_55 (sd_callV (Y' := YX0_price) (mc' := 0) (ms' := 0) (n := 1) clsX0.1 mw_789 mw_583 mw_584 mw_103 mw_585 rfl (okmX0_price) (by decide) (Nat.le_refl _) (by decide) (by decide) dX0_fillCosts_56 (sd_iastore dX0_fillCosts_59 (sd_iinc (i := 5) (v := 1) (by decide) (by decide) dX0_fillCosts_60 (sd_goto (tgt := 15) (by decide) dX0_fillCosts_63 (Sd.go)))))))))))))))))))))))))))) : Sd l E YX0_fillCosts (d + 1) 0 0 Q 0 0 15 (bX0_fillCosts_15 l E d Q)) ls st h hB
theorem eX0_fillCosts {l : Launch} {E : Ev} {d : Nat} {Q : Option Value → Hp → Prop} {h : Hp} {a0 : Nat} {x1 : Nat} {x2 : Nat} {x3 : Int32} (hk : Go l E YX0_fillCosts d 0 0 Q 0 0 0 [some (.ref a0), some (.ref x1), some (.ref x2), some (.int x3), none, none, none] [] h) : GoM l E YX0_fillCosts d 0 0 [.ref a0, .ref x1, .ref x2, .int x3] h Q := GoM.of (by decide +kernel) rfl (by simp [entA, YX0_fillCosts]) hk
theorem dX0_apartFrom_0 : decode cX0_apartFrom 0 = .ok (.aload_n 0, 1) := by decide +kernel
theorem dX0_apartFrom_1 : decode cX0_apartFrom 1 = .ok (.getfield 59, 3) := by decide +kernel
theorem dX0_apartFrom_4 : decode cX0_apartFrom 4 = .ok (.iload_n 1, 1) := by decide +kernel
theorem dX0_apartFrom_5 : decode cX0_apartFrom 5 = .ok (.iconst 3, 1) := by decide +kernel
theorem dX0_apartFrom_6 : decode cX0_apartFrom 6 = .ok (.imul, 1) := by decide +kernel
theorem dX0_apartFrom_7 : decode cX0_apartFrom 7 = .ok (.iconst 2, 1) := by decide +kernel
theorem dX0_apartFrom_8 : decode cX0_apartFrom 8 = .ok (.iadd, 1) := by decide +kernel
theorem dX0_apartFrom_9 : decode cX0_apartFrom 9 = .ok (.iaload, 1) := by decide +kernel
theorem dX0_apartFrom_10 : decode cX0_apartFrom 10 = .ok (.istore_n 2, 1) := by decide +kernel
theorem dX0_apartFrom_11 : decode cX0_apartFrom 11 = .ok (.iconst 0, 1) := by decide +kernel
theorem dX0_apartFrom_12 : decode cX0_apartFrom 12 = .ok (.istore_n 3, 1) := by decide +kernel
theorem dX0_apartFrom_13 : decode cX0_apartFrom 13 = .ok (.iconst 0, 1) := by decide +kernel
theorem dX0_apartFrom_14 : decode cX0_apartFrom 14 = .ok (.istore 4, 2) := by decide +kernel
theorem dX0_apartFrom_16 : decode cX0_apartFrom 16 = .ok (.iload 4, 2) := by decide +kernel
theorem dX0_apartFrom_18 : decode cX0_apartFrom 18 = .ok (.aload_n 0, 1) := by decide +kernel
theorem dX0_apartFrom_19 : decode cX0_apartFrom 19 = .ok (.getfield 36, 3) := by decide +kernel
theorem dX0_apartFrom_22 : decode cX0_apartFrom 22 = .ok (.if_icmp .ge 38, 3) := by decide +kernel
theorem dX0_apartFrom_25 : decode cX0_apartFrom 25 = .ok (.iload 4, 2) := by decide +kernel
theorem dX0_apartFrom_27 : decode cX0_apartFrom 27 = .ok (.iload_n 1, 1) := by decide +kernel
theorem dX0_apartFrom_28 : decode cX0_apartFrom 28 = .ok (.if_icmp .eq 26, 3) := by decide +kernel
theorem dX0_apartFrom_31 : decode cX0_apartFrom 31 = .ok (.aload_n 0, 1) := by decide +kernel
theorem dX0_apartFrom_32 : decode cX0_apartFrom 32 = .ok (.getfield 59, 3) := by decide +kernel
theorem dX0_apartFrom_35 : decode cX0_apartFrom 35 = .ok (.iload 4, 2) := by decide +kernel
theorem dX0_apartFrom_37 : decode cX0_apartFrom 37 = .ok (.iconst 3, 1) := by decide +kernel
theorem dX0_apartFrom_38 : decode cX0_apartFrom 38 = .ok (.imul, 1) := by decide +kernel
theorem dX0_apartFrom_39 : decode cX0_apartFrom 39 = .ok (.iconst 2, 1) := by decide +kernel
theorem dX0_apartFrom_40 : decode cX0_apartFrom 40 = .ok (.iadd, 1) := by decide +kernel
theorem dX0_apartFrom_41 : decode cX0_apartFrom 41 = .ok (.iaload, 1) := by decide +kernel
theorem dX0_apartFrom_42 : decode cX0_apartFrom 42 = .ok (.iload_n 2, 1) := by decide +kernel
theorem dX0_apartFrom_43 : decode cX0_apartFrom 43 = .ok (.iand, 1) := by decide +kernel
theorem dX0_apartFrom_44 : decode cX0_apartFrom 44 = .ok (.ifCond .ne 10, 3) := by decide +kernel
theorem dX0_apartFrom_47 : decode cX0_apartFrom 47 = .ok (.iload_n 3, 1) := by decide +kernel
theorem dX0_apartFrom_48 : decode cX0_apartFrom 48 = .ok (.iconst 1, 1) := by decide +kernel
theorem dX0_apartFrom_49 : decode cX0_apartFrom 49 = .ok (.iload 4, 2) := by decide +kernel
theorem dX0_apartFrom_51 : decode cX0_apartFrom 51 = .ok (.ishl, 1) := by decide +kernel
theorem dX0_apartFrom_52 : decode cX0_apartFrom 52 = .ok (.ior, 1) := by decide +kernel
theorem dX0_apartFrom_53 : decode cX0_apartFrom 53 = .ok (.istore_n 3, 1) := by decide +kernel
theorem dX0_apartFrom_54 : decode cX0_apartFrom 54 = .ok (.iinc 4 1, 3) := by decide +kernel
theorem dX0_apartFrom_57 : decode cX0_apartFrom 57 = .ok (.goto (-41), 3) := by decide +kernel
theorem dX0_apartFrom_60 : decode cX0_apartFrom 60 = .ok (.iload_n 3, 1) := by decide +kernel
theorem dX0_apartFrom_61 : decode cX0_apartFrom 61 = .ok (.ireturn, 1) := by decide +kernel
def bX0_apartFrom_0 (l : Launch) (E : Ev) (d : Nat) (Q : Option Value → Hp → Prop) : Kt := k_aload 0 (k_getR 7 15 3 (k_iload 1 (k_push (.int 3) (k_imul (k_push (.int 2) (k_iadd (k_iaload (k_istore 2 (k_push (.int 0) (k_istore 3 (k_push (.int 0) (k_istore 4 (Go l E YX0_apartFrom (d + 1) 0 0 Q 0 0 16)))))))))))))
set_option maxRecDepth 100000 in
set_option maxHeartbeats 4000000 in
theorem gX0_apartFrom_0 {l : Launch} {E : Ev} {d : Nat} {Q : Option Value → Hp → Prop} {ls : Lv} {st : List Value} {h : Hp} (hB : bX0_apartFrom_0 l E d Q ls st h) : Go l E YX0_apartFrom (d + 1) 0 0 Q 0 0 0 ls st h :=
  (sd_aload_n (i := 0) rfl dX0_apartFrom_0 (sd_getR clsX7 (f := 3) (by decide) (fun _ _ _ => rfl) mw_152 dX0_apartFrom_1 (sd_iload_n (i := 1) rfl dX0_apartFrom_4 (sd_iconst (v := 3) (by decide) dX0_apartFrom_5 (sd_imul dX0_apartFrom_6 (sd_iconst (v := 2) (by decide) dX0_apartFrom_7 (sd_iadd dX0_apartFrom_8 (sd_iaload dX0_apartFrom_9 (sd_istore_n (i := 2) rfl (by decide) dX0_apartFrom_10 (sd_iconst (v := 0) (by decide) dX0_apartFrom_11 (sd_istore_n (i := 3) rfl (by decide) dX0_apartFrom_12 (sd_iconst (v := 0) (by decide) dX0_apartFrom_13 (sd_istore (i := 4) (by decide) dX0_apartFrom_14 (Sd.go))))))))))))) : Sd l E YX0_apartFrom (d + 1) 0 0 Q 0 0 0 (bX0_apartFrom_0 l E d Q)) ls st h hB
def bX0_apartFrom_16 (l : Launch) (E : Ev) (d : Nat) (Q : Option Value → Hp → Prop) : Kt := k_iload 4 (k_aload 0 (k_getI 7 15 1 (k_icmp_ge (k_iload 3 (k_iret .int Q)) (k_iload 4 (k_iload 1 (k_icmp_eq (k_iinc 4 1 (Go l E YX0_apartFrom (d + 1) 0 0 Q 0 0 16)) (k_aload 0 (k_getR 7 15 3 (k_iload 4 (k_push (.int 3) (k_imul (k_push (.int 2) (k_iadd (k_iaload (k_iload 2 (k_iand (k_if_ne (k_iinc 4 1 (Go l E YX0_apartFrom (d + 1) 0 0 Q 0 0 16)) (k_iload 3 (k_push (.int 1) (k_iload 4 (k_ishl (k_ior (k_istore 3 (k_iinc 4 1 (Go l E YX0_apartFrom (d + 1) 0 0 Q 0 0 16)))))))))))))))))))))))))
set_option maxRecDepth 100000 in
set_option maxHeartbeats 4000000 in
theorem gX0_apartFrom_16 {l : Launch} {E : Ev} {d : Nat} {Q : Option Value → Hp → Prop} {ls : Lv} {st : List Value} {h : Hp} (hB : bX0_apartFrom_16 l E d Q ls st h) : Go l E YX0_apartFrom (d + 1) 0 0 Q 0 0 16 ls st h :=
  (sd_iload (n := 4) dX0_apartFrom_16 (sd_aload_n (i := 0) rfl dX0_apartFrom_18 (sd_getI clsX7 (f := 1) (by decide) (fun _ _ _ => rfl) mw_140 dX0_apartFrom_19 (sd_icmp_ge (tgt := 60) (by decide) dX0_apartFrom_22 (sd_iload_n (i := 3) rfl dX0_apartFrom_60 (sd_iret (ty := .int) rfl (by decide) (by decide) dX0_apartFrom_61)) (sd_iload (n := 4) dX0_apartFrom_25 (sd_iload_n (i := 1) rfl dX0_apartFrom_27 (sd_icmp_eq (tgt := 54) (by decide) dX0_apartFrom_28 (sd_iinc (i := 4) (v := 1) (by decide) (by decide) dX0_apartFrom_54 (sd_goto (tgt := 16) (by decide) dX0_apartFrom_57 (Sd.go))) (sd_aload_n (i := 0) rfl dX0_apartFrom_31 (sd_getR clsX7 (f := 3) (by decide) (fun _ _ _ => rfl) mw_152 dX0_apartFrom_32 (sd_iload (n := 4) dX0_apartFrom_35 (sd_iconst (v := 3) (by decide) dX0_apartFrom_37 (sd_imul dX0_apartFrom_38 (sd_iconst (v := 2) (by decide) dX0_apartFrom_39 (sd_iadd dX0_apartFrom_40 (sd_iaload dX0_apartFrom_41 (sd_iload_n (i := 2) rfl dX0_apartFrom_42 (sd_iand dX0_apartFrom_43 (sd_if_ne (tgt := 54) (by decide) dX0_apartFrom_44 (sd_iinc (i := 4) (v := 1) (by decide) (by decide) dX0_apartFrom_54 (sd_goto (tgt := 16) (by decide) dX0_apartFrom_57 (Sd.go))) (sd_iload_n (i := 3) rfl dX0_apartFrom_47 (sd_iconst (v := 1) (by decide) dX0_apartFrom_48 (sd_iload (n := 4) dX0_apartFrom_49 (sd_ishl dX0_apartFrom_51 (sd_ior dX0_apartFrom_52 (sd_istore_n (i := 3) rfl (by decide) dX0_apartFrom_53 (sd_iinc (i := 4) (v := 1) (by decide) (by decide) dX0_apartFrom_54 (sd_goto (tgt := 16) (by decide) dX0_apartFrom_57 (Sd.go)))))))))))))))))))))))))) : Sd l E YX0_apartFrom (d + 1) 0 0 Q 0 0 16 (bX0_apartFrom_16 l E d Q)) ls st h hB
theorem eX0_apartFrom {l : Launch} {E : Ev} {d : Nat} {Q : Option Value → Hp → Prop} {h : Hp} {x1 : Nat} {x2 : Int32} (hk : Go l E YX0_apartFrom d 0 0 Q 0 0 0 [some (.ref x1), some (.int x2), none, none, none] [] h) : GoM l E YX0_apartFrom d 0 0 [.ref x1, .int x2] h Q := GoM.of (by decide +kernel) rfl (by simp [entA, YX0_apartFrom]) hk
theorem dX0_ask_0 : decode cX0_ask 0 = .ok (.aload_n 0, 1) := by decide +kernel
theorem dX0_ask_1 : decode cX0_ask 1 = .ok (.getfield 21, 3) := by decide +kernel
theorem dX0_ask_4 : decode cX0_ask 4 = .ok (.iconst 0, 1) := by decide +kernel
theorem dX0_ask_5 : decode cX0_ask 5 = .ok (.iload_n 2, 1) := by decide +kernel
theorem dX0_ask_6 : decode cX0_ask 6 = .ok (.iastore, 1) := by decide +kernel
theorem dX0_ask_7 : decode cX0_ask 7 = .ok (.aload_n 0, 1) := by decide +kernel
theorem dX0_ask_8 : decode cX0_ask 8 = .ok (.getfield 21, 3) := by decide +kernel
theorem dX0_ask_11 : decode cX0_ask 11 = .ok (.iconst 1, 1) := by decide +kernel
theorem dX0_ask_12 : decode cX0_ask 12 = .ok (.iload_n 3, 1) := by decide +kernel
theorem dX0_ask_13 : decode cX0_ask 13 = .ok (.iastore, 1) := by decide +kernel
theorem dX0_ask_14 : decode cX0_ask 14 = .ok (.aload_n 0, 1) := by decide +kernel
theorem dX0_ask_15 : decode cX0_ask 15 = .ok (.getfield 21, 3) := by decide +kernel
theorem dX0_ask_18 : decode cX0_ask 18 = .ok (.iconst 2, 1) := by decide +kernel
theorem dX0_ask_19 : decode cX0_ask 19 = .ok (.aload_n 1, 1) := by decide +kernel
theorem dX0_ask_20 : decode cX0_ask 20 = .ok (.getfield 62, 3) := by decide +kernel
theorem dX0_ask_23 : decode cX0_ask 23 = .ok (.iload_n 2, 1) := by decide +kernel
theorem dX0_ask_24 : decode cX0_ask 24 = .ok (.iconst 4, 1) := by decide +kernel
theorem dX0_ask_25 : decode cX0_ask 25 = .ok (.imul, 1) := by decide +kernel
theorem dX0_ask_26 : decode cX0_ask 26 = .ok (.iaload, 1) := by decide +kernel
theorem dX0_ask_27 : decode cX0_ask 27 = .ok (.iastore, 1) := by decide +kernel
theorem dX0_ask_28 : decode cX0_ask 28 = .ok (.aload_n 0, 1) := by decide +kernel
theorem dX0_ask_29 : decode cX0_ask 29 = .ok (.getfield 21, 3) := by decide +kernel
theorem dX0_ask_32 : decode cX0_ask 32 = .ok (.iconst 3, 1) := by decide +kernel
theorem dX0_ask_33 : decode cX0_ask 33 = .ok (.aload_n 1, 1) := by decide +kernel
theorem dX0_ask_34 : decode cX0_ask 34 = .ok (.getfield 62, 3) := by decide +kernel
theorem dX0_ask_37 : decode cX0_ask 37 = .ok (.iload_n 2, 1) := by decide +kernel
theorem dX0_ask_38 : decode cX0_ask 38 = .ok (.iconst 4, 1) := by decide +kernel
theorem dX0_ask_39 : decode cX0_ask 39 = .ok (.imul, 1) := by decide +kernel
theorem dX0_ask_40 : decode cX0_ask 40 = .ok (.iconst 1, 1) := by decide +kernel
theorem dX0_ask_41 : decode cX0_ask 41 = .ok (.iadd, 1) := by decide +kernel
theorem dX0_ask_42 : decode cX0_ask 42 = .ok (.iaload, 1) := by decide +kernel
theorem dX0_ask_43 : decode cX0_ask 43 = .ok (.iastore, 1) := by decide +kernel
theorem dX0_ask_44 : decode cX0_ask 44 = .ok (.aload_n 0, 1) := by decide +kernel
theorem dX0_ask_45 : decode cX0_ask 45 = .ok (.getfield 21, 3) := by decide +kernel
theorem dX0_ask_48 : decode cX0_ask 48 = .ok (.iconst 4, 1) := by decide +kernel
theorem dX0_ask_49 : decode cX0_ask 49 = .ok (.aload_n 1, 1) := by decide +kernel
theorem dX0_ask_50 : decode cX0_ask 50 = .ok (.getfield 59, 3) := by decide +kernel
theorem dX0_ask_53 : decode cX0_ask 53 = .ok (.iload_n 3, 1) := by decide +kernel
theorem dX0_ask_54 : decode cX0_ask 54 = .ok (.iconst 3, 1) := by decide +kernel
theorem dX0_ask_55 : decode cX0_ask 55 = .ok (.imul, 1) := by decide +kernel
theorem dX0_ask_56 : decode cX0_ask 56 = .ok (.iaload, 1) := by decide +kernel
theorem dX0_ask_57 : decode cX0_ask 57 = .ok (.iastore, 1) := by decide +kernel
theorem dX0_ask_58 : decode cX0_ask 58 = .ok (.aload_n 0, 1) := by decide +kernel
theorem dX0_ask_59 : decode cX0_ask 59 = .ok (.getfield 21, 3) := by decide +kernel
theorem dX0_ask_62 : decode cX0_ask 62 = .ok (.iconst 5, 1) := by decide +kernel
theorem dX0_ask_63 : decode cX0_ask 63 = .ok (.aload_n 1, 1) := by decide +kernel
theorem dX0_ask_64 : decode cX0_ask 64 = .ok (.getfield 62, 3) := by decide +kernel
theorem dX0_ask_67 : decode cX0_ask 67 = .ok (.iload_n 2, 1) := by decide +kernel
theorem dX0_ask_68 : decode cX0_ask 68 = .ok (.iconst 4, 1) := by decide +kernel
theorem dX0_ask_69 : decode cX0_ask 69 = .ok (.imul, 1) := by decide +kernel
theorem dX0_ask_70 : decode cX0_ask 70 = .ok (.iconst 2, 1) := by decide +kernel
theorem dX0_ask_71 : decode cX0_ask 71 = .ok (.iadd, 1) := by decide +kernel
theorem dX0_ask_72 : decode cX0_ask 72 = .ok (.iaload, 1) := by decide +kernel
theorem dX0_ask_73 : decode cX0_ask 73 = .ok (.iastore, 1) := by decide +kernel
theorem dX0_ask_74 : decode cX0_ask 74 = .ok (.aload_n 0, 1) := by decide +kernel
theorem dX0_ask_75 : decode cX0_ask 75 = .ok (.getfield 21, 3) := by decide +kernel
theorem dX0_ask_78 : decode cX0_ask 78 = .ok (.bipush 6, 2) := by decide +kernel
theorem dX0_ask_80 : decode cX0_ask 80 = .ok (.aload_n 1, 1) := by decide +kernel
theorem dX0_ask_81 : decode cX0_ask 81 = .ok (.getfield 59, 3) := by decide +kernel
theorem dX0_ask_84 : decode cX0_ask 84 = .ok (.iload_n 3, 1) := by decide +kernel
theorem dX0_ask_85 : decode cX0_ask 85 = .ok (.iconst 3, 1) := by decide +kernel
theorem dX0_ask_86 : decode cX0_ask 86 = .ok (.imul, 1) := by decide +kernel
theorem dX0_ask_87 : decode cX0_ask 87 = .ok (.iconst 1, 1) := by decide +kernel
theorem dX0_ask_88 : decode cX0_ask 88 = .ok (.iadd, 1) := by decide +kernel
theorem dX0_ask_89 : decode cX0_ask 89 = .ok (.iaload, 1) := by decide +kernel
theorem dX0_ask_90 : decode cX0_ask 90 = .ok (.iastore, 1) := by decide +kernel
theorem dX0_ask_91 : decode cX0_ask 91 = .ok (.aload_n 0, 1) := by decide +kernel
theorem dX0_ask_92 : decode cX0_ask 92 = .ok (.getfield 21, 3) := by decide +kernel
theorem dX0_ask_95 : decode cX0_ask 95 = .ok (.bipush 7, 2) := by decide +kernel
theorem dX0_ask_97 : decode cX0_ask 97 = .ok (.iload 4, 2) := by decide +kernel
theorem dX0_ask_99 : decode cX0_ask 99 = .ok (.iastore, 1) := by decide +kernel
theorem dX0_ask_100 : decode cX0_ask 100 = .ok (.aload_n 0, 1) := by decide +kernel
theorem dX0_ask_101 : decode cX0_ask 101 = .ok (.getfield 21, 3) := by decide +kernel
theorem dX0_ask_104 : decode cX0_ask 104 = .ok (.bipush 8, 2) := by decide +kernel
theorem dX0_ask_106 : decode cX0_ask 106 = .ok (.aload_n 1, 1) := by decide +kernel
theorem dX0_ask_107 : decode cX0_ask 107 = .ok (.getfield 65, 3) := by decide +kernel
theorem dX0_ask_110 : decode cX0_ask 110 = .ok (.iload_n 3, 1) := by decide +kernel
theorem dX0_ask_111 : decode cX0_ask 111 = .ok (.iaload, 1) := by decide +kernel
theorem dX0_ask_112 : decode cX0_ask 112 = .ok (.iload_n 2, 1) := by decide +kernel
theorem dX0_ask_113 : decode cX0_ask 113 = .ok (.if_icmp .ne 7, 3) := by decide +kernel
theorem dX0_ask_116 : decode cX0_ask 116 = .ok (.iconst 1, 1) := by decide +kernel
theorem dX0_ask_117 : decode cX0_ask 117 = .ok (.goto 4, 3) := by decide +kernel
theorem dX0_ask_120 : decode cX0_ask 120 = .ok (.iconst 0, 1) := by decide +kernel
theorem dX0_ask_121 : decode cX0_ask 121 = .ok (.iastore, 1) := by decide +kernel
theorem dX0_ask_122 : decode cX0_ask 122 = .ok (.aload_n 0, 1) := by decide +kernel
theorem dX0_ask_123 : decode cX0_ask 123 = .ok (.getfield 21, 3) := by decide +kernel
theorem dX0_ask_126 : decode cX0_ask 126 = .ok (.bipush 9, 2) := by decide +kernel
theorem dX0_ask_128 : decode cX0_ask 128 = .ok (.iload 5, 2) := by decide +kernel
theorem dX0_ask_130 : decode cX0_ask 130 = .ok (.iastore, 1) := by decide +kernel
theorem dX0_ask_131 : decode cX0_ask 131 = .ok (.return_, 1) := by decide +kernel
def bX0_ask_0 (l : Launch) (E : Ev) (d : Nat) (Q : Option Value → Hp → Prop) : Kt := k_aload 0 (k_getR 0 7 5 (k_push (.int 0) (k_iload 2 (k_iastore (k_aload 0 (k_getR 0 7 5 (k_push (.int 1) (k_iload 3 (k_iastore (k_aload 0 (k_getR 0 7 5 (k_push (.int 2) (k_aload 1 (k_getR 7 15 2 (k_iload 2 (k_push (.int 4) (k_imul (k_iaload (k_iastore (k_aload 0 (k_getR 0 7 5 (k_push (.int 3) (k_aload 1 (k_getR 7 15 2 (k_iload 2 (k_push (.int 4) (k_imul (k_push (.int 1) (k_iadd (k_iaload (k_iastore (k_aload 0 (k_getR 0 7 5 (k_push (.int 4) (k_aload 1 (k_getR 7 15 3 (k_iload 3 (k_push (.int 3) (k_imul (k_iaload (k_iastore (k_aload 0 (k_getR 0 7 5 (k_push (.int 5) (k_aload 1 (k_getR 7 15 2 (k_iload 2 (k_push (.int 4) (k_imul (k_push (.int 2) (k_iadd (k_iaload (k_iastore (k_aload 0 (k_getR 0 7 5 (k_push (.int 6) (k_aload 1 (k_getR 7 15 3 (k_iload 3 (k_push (.int 3) (k_imul (k_push (.int 1) (k_iadd (k_iaload (k_iastore (k_aload 0 (k_getR 0 7 5 (k_push (.int 7) (k_iload 4 (k_iastore (k_aload 0 (k_getR 0 7 5 (k_push (.int 8) (k_aload 1 (k_getR 7 15 4 (k_iload 3 (k_iaload (k_iload 2 (k_icmp_ne (k_push (.int 0) (k_iastore (k_aload 0 (k_getR 0 7 5 (k_push (.int 9) (k_iload 5 (k_iastore (k_vret Q)))))))) (k_push (.int 1) (k_iastore (k_aload 0 (k_getR 0 7 5 (k_push (.int 9) (k_iload 5 (k_iastore (k_vret Q)))))))))))))))))))))))))))))))))))))))))))))))))))))))))))))))))))))))))))))))))))))))
set_option maxRecDepth 100000 in
set_option maxHeartbeats 4000000 in
theorem gX0_ask_0 {l : Launch} {E : Ev} {d : Nat} {Q : Option Value → Hp → Prop} {ls : Lv} {st : List Value} {h : Hp} (hB : bX0_ask_0 l E d Q ls st h) : Go l E YX0_ask (d + 1) 0 0 Q 0 0 0 ls st h :=
  (sd_aload_n (i := 0) rfl dX0_ask_0 (sd_getR clsX0 (f := 5) (by decide) (fun _ _ _ => rfl) mw_285 dX0_ask_1 (sd_iconst (v := 0) (by decide) dX0_ask_4 (sd_iload_n (i := 2) rfl dX0_ask_5 (sd_iastore dX0_ask_6 (sd_aload_n (i := 0) rfl dX0_ask_7 (sd_getR clsX0 (f := 5) (by decide) (fun _ _ _ => rfl) mw_285 dX0_ask_8 (sd_iconst (v := 1) (by decide) dX0_ask_11 (sd_iload_n (i := 3) rfl dX0_ask_12 (sd_iastore dX0_ask_13 (sd_aload_n (i := 0) rfl dX0_ask_14 (sd_getR clsX0 (f := 5) (by decide) (fun _ _ _ => rfl) mw_285 dX0_ask_15 (sd_iconst (v := 2) (by decide) dX0_ask_18 (sd_aload_n (i := 1) rfl dX0_ask_19 (sd_getR clsX7 (f := 2) (by decide) (fun _ _ _ => rfl) mw_147 dX0_ask_20 (sd_iload_n (i := 2) rfl dX0_ask_23 (sd_iconst (v := 4) (by decide) dX0_ask_24 (sd_imul dX0_ask_25 (sd_iaload dX0_ask_26 (sd_iastore dX0_ask_27 (sd_aload_n (i := 0) rfl dX0_ask_28 (sd_getR clsX0 (f := 5) (by decide) (fun _ _ _ => rfl) mw_285 dX0_ask_29 (sd_iconst (v := 3) (by decide) dX0_ask_32 (sd_aload_n (i := 1) rfl dX0_ask_33 (sd_getR clsX7 (f := 2) (by decide) (fun _ _ _ => rfl) mw_147 dX0_ask_34 (sd_iload_n (i := 2) rfl dX0_ask_37 (sd_iconst (v := 4) (by decide) dX0_ask_38 (sd_imul dX0_ask_39 (sd_iconst (v := 1) (by decide) dX0_ask_40 (sd_iadd dX0_ask_41 (sd_iaload dX0_ask_42 (sd_iastore dX0_ask_43 (sd_aload_n (i := 0) rfl dX0_ask_44 (sd_getR clsX0 (f := 5) (by decide) (fun _ _ _ => rfl) mw_285 dX0_ask_45 (sd_iconst (v := 4) (by decide) dX0_ask_48 (sd_aload_n (i := 1) rfl dX0_ask_49 (sd_getR clsX7 (f := 3) (by decide) (fun _ _ _ => rfl) mw_152 dX0_ask_50 (sd_iload_n (i := 3) rfl dX0_ask_53 (sd_iconst (v := 3) (by decide) dX0_ask_54 (sd_imul dX0_ask_55 (sd_iaload dX0_ask_56 (sd_iastore dX0_ask_57 (sd_aload_n (i := 0) rfl dX0_ask_58 (sd_getR clsX0 (f := 5) (by decide) (fun _ _ _ => rfl) mw_285 dX0_ask_59 (sd_iconst (v := 5) (by decide) dX0_ask_62 (sd_aload_n (i := 1) rfl dX0_ask_63 (sd_getR clsX7 (f := 2) (by decide) (fun _ _ _ => rfl) mw_147 dX0_ask_64 (sd_iload_n (i := 2) rfl dX0_ask_67 (sd_iconst (v := 4) (by decide) dX0_ask_68 (sd_imul dX0_ask_69 (sd_iconst (v := 2) (by decide) dX0_ask_70 (sd_iadd dX0_ask_71 (sd_iaload dX0_ask_72 (sd_iastore dX0_ask_73 (sd_aload_n (i := 0) rfl dX0_ask_74 (sd_getR clsX0 (f := 5) (by decide) (fun _ _ _ => rfl) mw_285 dX0_ask_75 (sd_bipush (v := 6) (by decide) dX0_ask_78 (sd_aload_n (i := 1) rfl dX0_ask_80 (sd_getR clsX7 (f := 3) (by decide) (fun _ _ _ => rfl) mw_152 dX0_ask_81 (sd_iload_n (i := 3) rfl dX0_ask_84 (sd_iconst (v := 3) (by decide) dX0_ask_85 (sd_imul dX0_ask_86 (sd_iconst (v := 1) (by decide) dX0_ask_87 (sd_iadd dX0_ask_88 (sd_iaload dX0_ask_89 (sd_iastore dX0_ask_90 (sd_aload_n (i := 0) rfl dX0_ask_91 (sd_getR clsX0 (f := 5) (by decide) (fun _ _ _ => rfl) mw_285 dX0_ask_92 (sd_bipush (v := 7) (by decide) dX0_ask_95 (sd_iload (n := 4) dX0_ask_97 (sd_iastore dX0_ask_99 (sd_aload_n (i := 0) rfl dX0_ask_100 (sd_getR clsX0 (f := 5) (by decide) (fun _ _ _ => rfl) mw_285 dX0_ask_101 (sd_bipush (v := 8) (by decide) dX0_ask_104 (sd_aload_n (i := 1) rfl dX0_ask_106 (sd_getR clsX7 (f := 4) (by decide) (fun _ _ _ => rfl) mw_154 dX0_ask_107 (sd_iload_n (i := 3) rfl dX0_ask_110 (sd_iaload dX0_ask_111 (sd_iload_n (i := 2) rfl dX0_ask_112 (sd_icmp_ne (tgt := 120) (by decide) dX0_ask_113 (sd_iconst (v := 0) (by decide) dX0_ask_120 (sd_iastore dX0_ask_121 (sd_aload_n (i := 0) rfl dX0_ask_122 (sd_getR clsX0 (f := 5) (by decide) (fun _ _ _ => rfl) mw_285 dX0_ask_123 (sd_bipush (v := 9) (by decide) dX0_ask_126 (sd_iload (n := 5) dX0_ask_128 (sd_iastore dX0_ask_130 (sd_vret rfl (by decide) (by decide) dX0_ask_131)))))))) (sd_iconst (v := 1) (by decide) dX0_ask_116 (sd_goto (tgt := 121) (by decide) dX0_ask_117 (sd_iastore dX0_ask_121 (sd_aload_n (i := 0) rfl dX0_ask_122 (sd_getR clsX0 (f := 5) (by decide) (fun _ _ _ => rfl) mw_285 dX0_ask_123 (sd_bipush (v := 9) (by decide) dX0_ask_126 (sd_iload (n := 5) dX0_ask_128 (sd_iastore dX0_ask_130 (sd_vret rfl (by decide) (by decide) dX0_ask_131)))))))))))))))))))))))))))))))))))))))))))))))))))))))))))))))))))))))))))))))))))))))) : Sd l E YX0_ask (d + 1) 0 0 Q 0 0 0 (bX0_ask_0 l E d Q)) ls st h hB
theorem eX0_ask {l : Launch} {E : Ev} {d : Nat} {Q : Option Value → Hp → Prop} {h : Hp} {a0 : Nat} {x1 : Nat} {x2 : Int32} {x3 : Int32} {x4 : Int32} {x5 : Int32} (hk : Go l E YX0_ask d 0 0 Q 0 0 0 [some (.ref a0), some (.ref x1), some (.int x2), some (.int x3), some (.int x4), some (.int x5)] [] h) : GoM l E YX0_ask d 0 0 [.ref a0, .ref x1, .int x2, .int x3, .int x4, .int x5] h Q := GoM.of (by decide +kernel) rfl (by simp [entA, YX0_ask]) hk
theorem dX0_canPlay_0 : decode cX0_canPlay 0 = .ok (.aload_n 1, 1) := by decide +kernel
theorem dX0_canPlay_1 : decode cX0_canPlay 1 = .ok (.invokevirtual 68, 3) := by decide +kernel
theorem dX0_canPlay_4 : decode cX0_canPlay 4 = .ok (.astore_n 2, 1) := by decide +kernel
theorem dX0_canPlay_5 : decode cX0_canPlay 5 = .ok (.aload_n 0, 1) := by decide +kernel
theorem dX0_canPlay_6 : decode cX0_canPlay 6 = .ok (.getfield 21, 3) := by decide +kernel
theorem dX0_canPlay_9 : decode cX0_canPlay 9 = .ok (.bipush 7, 2) := by decide +kernel
theorem dX0_canPlay_11 : decode cX0_canPlay 11 = .ok (.iaload, 1) := by decide +kernel
theorem dX0_canPlay_12 : decode cX0_canPlay 12 = .ok (.aload_n 1, 1) := by decide +kernel
theorem dX0_canPlay_13 : decode cX0_canPlay 13 = .ok (.getfield 40, 3) := by decide +kernel
theorem dX0_canPlay_16 : decode cX0_canPlay 16 = .ok (.iconst 0, 1) := by decide +kernel
theorem dX0_canPlay_17 : decode cX0_canPlay 17 = .ok (.iaload, 1) := by decide +kernel
theorem dX0_canPlay_18 : decode cX0_canPlay 18 = .ok (.if_icmp .lt 7, 3) := by decide +kernel
theorem dX0_canPlay_21 : decode cX0_canPlay 21 = .ok (.iconst 1, 1) := by decide +kernel
theorem dX0_canPlay_22 : decode cX0_canPlay 22 = .ok (.goto 4, 3) := by decide +kernel
theorem dX0_canPlay_25 : decode cX0_canPlay 25 = .ok (.iconst 0, 1) := by decide +kernel
theorem dX0_canPlay_26 : decode cX0_canPlay 26 = .ok (.istore_n 3, 1) := by decide +kernel
theorem dX0_canPlay_27 : decode cX0_canPlay 27 = .ok (.aload_n 2, 1) := by decide +kernel
theorem dX0_canPlay_28 : decode cX0_canPlay 28 = .ok (.ifnonnull 5, 3) := by decide +kernel
theorem dX0_canPlay_31 : decode cX0_canPlay 31 = .ok (.iload_n 3, 1) := by decide +kernel
theorem dX0_canPlay_32 : decode cX0_canPlay 32 = .ok (.ireturn, 1) := by decide +kernel
theorem dX0_canPlay_33 : decode cX0_canPlay 33 = .ok (.iload_n 3, 1) := by decide +kernel
theorem dX0_canPlay_34 : decode cX0_canPlay 34 = .ok (.ifCond .ne 21, 3) := by decide +kernel
theorem dX0_canPlay_37 : decode cX0_canPlay 37 = .ok (.aload_n 2, 1) := by decide +kernel
theorem dX0_canPlay_38 : decode cX0_canPlay 38 = .ok (.iconst 3, 1) := by decide +kernel
theorem dX0_canPlay_39 : decode cX0_canPlay 39 = .ok (.aload_n 0, 1) := by decide +kernel
theorem dX0_canPlay_40 : decode cX0_canPlay 40 = .ok (.getfield 21, 3) := by decide +kernel
theorem dX0_canPlay_43 : decode cX0_canPlay 43 = .ok (.aload_n 0, 1) := by decide +kernel
theorem dX0_canPlay_44 : decode cX0_canPlay 44 = .ok (.getfield 26, 3) := by decide +kernel
theorem dX0_canPlay_47 : decode cX0_canPlay 47 = .ok (.invokevirtual 72, 3) := by decide +kernel
theorem dX0_canPlay_50 : decode cX0_canPlay 50 = .ok (.ldc 76, 2) := by decide +kernel
theorem dX0_canPlay_52 : decode cX0_canPlay 52 = .ok (.if_icmp .eq 7, 3) := by decide +kernel
theorem dX0_canPlay_55 : decode cX0_canPlay 55 = .ok (.iconst 1, 1) := by decide +kernel
theorem dX0_canPlay_56 : decode cX0_canPlay 56 = .ok (.goto 4, 3) := by decide +kernel
theorem dX0_canPlay_59 : decode cX0_canPlay 59 = .ok (.iconst 0, 1) := by decide +kernel
theorem dX0_canPlay_60 : decode cX0_canPlay 60 = .ok (.istore 4, 2) := by decide +kernel
theorem dX0_canPlay_62 : decode cX0_canPlay 62 = .ok (.iload 4, 2) := by decide +kernel
theorem dX0_canPlay_64 : decode cX0_canPlay 64 = .ok (.ifCond .eq 25, 3) := by decide +kernel
theorem dX0_canPlay_67 : decode cX0_canPlay 67 = .ok (.aload_n 2, 1) := by decide +kernel
theorem dX0_canPlay_68 : decode cX0_canPlay 68 = .ok (.iconst 2, 1) := by decide +kernel
theorem dX0_canPlay_69 : decode cX0_canPlay 69 = .ok (.aload_n 0, 1) := by decide +kernel
theorem dX0_canPlay_70 : decode cX0_canPlay 70 = .ok (.getfield 21, 3) := by decide +kernel
theorem dX0_canPlay_73 : decode cX0_canPlay 73 = .ok (.aload_n 0, 1) := by decide +kernel
theorem dX0_canPlay_74 : decode cX0_canPlay 74 = .ok (.getfield 26, 3) := by decide +kernel
theorem dX0_canPlay_77 : decode cX0_canPlay 77 = .ok (.invokevirtual 72, 3) := by decide +kernel
theorem dX0_canPlay_80 : decode cX0_canPlay 80 = .ok (.ldc 76, 2) := by decide +kernel
theorem dX0_canPlay_82 : decode cX0_canPlay 82 = .ok (.if_icmp .ne 7, 3) := by decide +kernel
theorem dX0_canPlay_85 : decode cX0_canPlay 85 = .ok (.iconst 1, 1) := by decide +kernel
theorem dX0_canPlay_86 : decode cX0_canPlay 86 = .ok (.goto 4, 3) := by decide +kernel
theorem dX0_canPlay_89 : decode cX0_canPlay 89 = .ok (.iconst 0, 1) := by decide +kernel
theorem dX0_canPlay_90 : decode cX0_canPlay 90 = .ok (.ireturn, 1) := by decide +kernel
def bX0_canPlay_0 (l : Launch) (E : Ev) (d : Nat) (Q : Option Value → Hp → Prop) : Kt := k_aload 1 (k_callV l E 7 15 YX7_forced d 0 0 0 (k_astore 2 (k_aload 0 (k_getR 0 7 5 (k_push (.int 7) (k_iaload (k_aload 1 (k_getR 7 15 7 (k_push (.int 0) (k_iaload (k_icmp_lt (k_push (.int 0) (Go l E YX0_canPlay (d + 1) 0 0 Q 0 0 26)) (k_push (.int 1) (Go l E YX0_canPlay (d + 1) 0 0 Q 0 0 26)))))))))))))
set_option maxRecDepth 100000 in
set_option maxHeartbeats 4000000 in
theorem gX0_canPlay_0 {l : Launch} {E : Ev} {d : Nat} {Q : Option Value → Hp → Prop} {ls : Lv} {st : List Value} {h : Hp} (hB : bX0_canPlay_0 l E d Q ls st h) : Go l E YX0_canPlay (d + 1) 0 0 Q 0 0 0 ls st h :=
  (sd_aload_n (i := 1) rfl dX0_canPlay_0 (sd_callV (Y' := YX7_forced) (mc' := 0) (ms' := 0) (n := 0) clsX7.1 mw_559 mw_560 mw_561 mw_101 mw_562 rfl (okmX7_forced) (by decide) (Nat.le_refl _) (by decide) (by decide) dX0_canPlay_1 (sd_astore_n (i := 2) rfl (by decide) dX0_canPlay_4 (sd_aload_n (i := 0) rfl dX0_canPlay_5 (sd_getR clsX0 (f := 5) (by decide) (fun _ _ _ => rfl) mw_285 dX0_canPlay_6 (sd_bipush (v := 7) (by decide) dX0_canPlay_9 (sd_iaload dX0_canPlay_11 (sd_aload_n (i := 1) rfl dX0_canPlay_12 (sd_getR clsX7 (f := 7) (by decide) (fun _ _ _ => rfl) mw_163 dX0_canPlay_13 (sd_iconst (v := 0) (by decide) dX0_canPlay_16 (sd_iaload dX0_canPlay_17 (sd_icmp_lt (tgt := 25) (by decide) dX0_canPlay_18 (sd_iconst (v := 0) (by decide) dX0_canPlay_25 (Sd.go)) (sd_iconst (v := 1) (by decide) dX0_canPlay_21 (sd_goto (tgt := 26) (by decide) dX0_canPlay_22 (Sd.go)))))))))))))) : Sd l E YX0_canPlay (d + 1) 0 0 Q 0 0 0 (bX0_canPlay_0 l E d Q)) ls st h hB
def bX0_canPlay_26 (l : Launch) (E : Ev) (d : Nat) (Q : Option Value → Hp → Prop) : Kt := k_istore 3 (k_aload 2 (k_ifnonnull (k_iload 3 (k_if_ne (k_push (.int 1) (Go l E YX0_canPlay (d + 1) 0 0 Q 0 0 60)) (k_aload 2 (k_push (.int 3) (k_aload 0 (k_getR 0 7 5 (k_aload 0 (k_getR 0 7 6 (k_callV l E 2 3 YX2_tells d 0 0 3 (k_push (.int (-2147483648)) (k_icmp_eq (k_push (.int 0) (Go l E YX0_canPlay (d + 1) 0 0 Q 0 0 60)) (k_push (.int 1) (Go l E YX0_canPlay (d + 1) 0 0 Q 0 0 60))))))))))))) (k_iload 3 (k_iret .boolean Q))))
set_option maxRecDepth 100000 in
set_option maxHeartbeats 4000000 in
theorem gX0_canPlay_26 {l : Launch} {E : Ev} {d : Nat} {Q : Option Value → Hp → Prop} {ls : Lv} {st : List Value} {h : Hp} (hB : bX0_canPlay_26 l E d Q ls st h) : Go l E YX0_canPlay (d + 1) 0 0 Q 0 0 26 ls st h :=
  (sd_istore_n (i := 3) rfl (by decide) dX0_canPlay_26 (sd_aload_n (i := 2) rfl dX0_canPlay_27 (sd_ifnonnull (tgt := 33) (by decide) dX0_canPlay_28 (sd_iload_n (i := 3) rfl dX0_canPlay_33 (sd_if_ne (tgt := 55) (by decide) dX0_canPlay_34 (sd_iconst (v := 1) (by decide) dX0_canPlay_55 (sd_goto (tgt := 60) (by decide) dX0_canPlay_56 (Sd.go))) (sd_aload_n (i := 2) rfl dX0_canPlay_37 (sd_iconst (v := 3) (by decide) dX0_canPlay_38 (sd_aload_n (i := 0) rfl dX0_canPlay_39 (sd_getR clsX0 (f := 5) (by decide) (fun _ _ _ => rfl) mw_285 dX0_canPlay_40 (sd_aload_n (i := 0) rfl dX0_canPlay_43 (sd_getR clsX0 (f := 6) (by decide) (fun _ _ _ => rfl) mw_286 dX0_canPlay_44 (sd_callV (Y' := YX2_tells) (mc' := 0) (ms' := 0) (n := 3) clsX2.1 mw_563 mw_564 mw_565 mw_110 mw_566 rfl (okmX2_tells) (by decide) (Nat.le_refl _) (by decide) (by decide) dX0_canPlay_47 (sd_ldc (v := (-2147483648)) mw_581 dX0_canPlay_50 (sd_icmp_eq (tgt := 59) (by decide) dX0_canPlay_52 (sd_iconst (v := 0) (by decide) dX0_canPlay_59 (Sd.go)) (sd_iconst (v := 1) (by decide) dX0_canPlay_55 (sd_goto (tgt := 60) (by decide) dX0_canPlay_56 (Sd.go)))))))))))))) (sd_iload_n (i := 3) rfl dX0_canPlay_31 (sd_iret (ty := .boolean) rfl (by decide) (by decide) dX0_canPlay_32)))) : Sd l E YX0_canPlay (d + 1) 0 0 Q 0 0 26 (bX0_canPlay_26 l E d Q)) ls st h hB
def bX0_canPlay_60 (l : Launch) (E : Ev) (d : Nat) (Q : Option Value → Hp → Prop) : Kt := k_istore 4 (k_iload 4 (k_if_eq (k_push (.int 0) (k_iret .boolean Q)) (k_aload 2 (k_push (.int 2) (k_aload 0 (k_getR 0 7 5 (k_aload 0 (k_getR 0 7 6 (k_callV l E 2 3 YX2_tells d 0 0 3 (k_push (.int (-2147483648)) (k_icmp_ne (k_push (.int 0) (k_iret .boolean Q)) (k_push (.int 1) (k_iret .boolean Q)))))))))))))
set_option maxRecDepth 100000 in
set_option maxHeartbeats 4000000 in
theorem gX0_canPlay_60 {l : Launch} {E : Ev} {d : Nat} {Q : Option Value → Hp → Prop} {ls : Lv} {st : List Value} {h : Hp} (hB : bX0_canPlay_60 l E d Q ls st h) : Go l E YX0_canPlay (d + 1) 0 0 Q 0 0 60 ls st h :=
  (sd_istore (i := 4) (by decide) dX0_canPlay_60 (sd_iload (n := 4) dX0_canPlay_62 (sd_if_eq (tgt := 89) (by decide) dX0_canPlay_64 (sd_iconst (v := 0) (by decide) dX0_canPlay_89 (sd_iret (ty := .boolean) rfl (by decide) (by decide) dX0_canPlay_90)) (sd_aload_n (i := 2) rfl dX0_canPlay_67 (sd_iconst (v := 2) (by decide) dX0_canPlay_68 (sd_aload_n (i := 0) rfl dX0_canPlay_69 (sd_getR clsX0 (f := 5) (by decide) (fun _ _ _ => rfl) mw_285 dX0_canPlay_70 (sd_aload_n (i := 0) rfl dX0_canPlay_73 (sd_getR clsX0 (f := 6) (by decide) (fun _ _ _ => rfl) mw_286 dX0_canPlay_74 (sd_callV (Y' := YX2_tells) (mc' := 0) (ms' := 0) (n := 3) clsX2.1 mw_563 mw_564 mw_565 mw_110 mw_566 rfl (okmX2_tells) (by decide) (Nat.le_refl _) (by decide) (by decide) dX0_canPlay_77 (sd_ldc (v := (-2147483648)) mw_581 dX0_canPlay_80 (sd_icmp_ne (tgt := 89) (by decide) dX0_canPlay_82 (sd_iconst (v := 0) (by decide) dX0_canPlay_89 (sd_iret (ty := .boolean) rfl (by decide) (by decide) dX0_canPlay_90)) (sd_iconst (v := 1) (by decide) dX0_canPlay_85 (sd_goto (tgt := 90) (by decide) dX0_canPlay_86 (sd_iret (ty := .boolean) rfl (by decide) (by decide) dX0_canPlay_90)))))))))))))) : Sd l E YX0_canPlay (d + 1) 0 0 Q 0 0 60 (bX0_canPlay_60 l E d Q)) ls st h hB
theorem eX0_canPlay {l : Launch} {E : Ev} {d : Nat} {Q : Option Value → Hp → Prop} {h : Hp} {a0 : Nat} {x1 : Nat} (hk : Go l E YX0_canPlay d 0 0 Q 0 0 0 [some (.ref a0), some (.ref x1), none, none, none] [] h) : GoM l E YX0_canPlay d 0 0 [.ref a0, .ref x1] h Q := GoM.of (by decide +kernel) rfl (by simp [entA, YX0_canPlay]) hk
theorem dX0_price_0 : decode cX0_price 0 = .ok (.aload_n 1, 1) := by decide +kernel
theorem dX0_price_1 : decode cX0_price 1 = .ok (.invokevirtual 68, 3) := by decide +kernel
theorem dX0_price_4 : decode cX0_price 4 = .ok (.astore_n 2, 1) := by decide +kernel
theorem dX0_price_5 : decode cX0_price 5 = .ok (.aload_n 2, 1) := by decide +kernel
theorem dX0_price_6 : decode cX0_price 6 = .ok (.ifnonnull 8, 3) := by decide +kernel
theorem dX0_price_9 : decode cX0_price 9 = .ok (.ldc 76, 2) := by decide +kernel
theorem dX0_price_11 : decode cX0_price 11 = .ok (.goto 16, 3) := by decide +kernel
theorem dX0_price_14 : decode cX0_price 14 = .ok (.aload_n 2, 1) := by decide +kernel
theorem dX0_price_15 : decode cX0_price 15 = .ok (.iconst 0, 1) := by decide +kernel
theorem dX0_price_16 : decode cX0_price 16 = .ok (.aload_n 0, 1) := by decide +kernel
theorem dX0_price_17 : decode cX0_price 17 = .ok (.getfield 21, 3) := by decide +kernel
theorem dX0_price_20 : decode cX0_price 20 = .ok (.aload_n 0, 1) := by decide +kernel
theorem dX0_price_21 : decode cX0_price 21 = .ok (.getfield 26, 3) := by decide +kernel
theorem dX0_price_24 : decode cX0_price 24 = .ok (.invokevirtual 72, 3) := by decide +kernel
theorem dX0_price_27 : decode cX0_price 27 = .ok (.istore_n 3, 1) := by decide +kernel
theorem dX0_price_28 : decode cX0_price 28 = .ok (.iload_n 3, 1) := by decide +kernel
theorem dX0_price_29 : decode cX0_price 29 = .ok (.ldc 76, 2) := by decide +kernel
theorem dX0_price_31 : decode cX0_price 31 = .ok (.if_icmp .ne 15, 3) := by decide +kernel
theorem dX0_price_34 : decode cX0_price 34 = .ok (.iconst 1, 1) := by decide +kernel
theorem dX0_price_35 : decode cX0_price 35 = .ok (.aload_n 0, 1) := by decide +kernel
theorem dX0_price_36 : decode cX0_price 36 = .ok (.getfield 21, 3) := by decide +kernel
theorem dX0_price_39 : decode cX0_price 39 = .ok (.bipush 8, 2) := by decide +kernel
theorem dX0_price_41 : decode cX0_price 41 = .ok (.iaload, 1) := by decide +kernel
theorem dX0_price_42 : decode cX0_price 42 = .ok (.isub, 1) := by decide +kernel
theorem dX0_price_43 : decode cX0_price 43 = .ok (.goto 13, 3) := by decide +kernel
theorem dX0_price_46 : decode cX0_price 46 = .ok (.iconst 0, 1) := by decide +kernel
theorem dX0_price_47 : decode cX0_price 47 = .ok (.bipush 99, 2) := by decide +kernel
theorem dX0_price_49 : decode cX0_price 49 = .ok (.iload_n 3, 1) := by decide +kernel
theorem dX0_price_50 : decode cX0_price 50 = .ok (.invokestatic 77, 3) := by decide +kernel
theorem dX0_price_53 : decode cX0_price 53 = .ok (.invokestatic 83, 3) := by decide +kernel
theorem dX0_price_56 : decode cX0_price 56 = .ok (.ireturn, 1) := by decide +kernel
def bX0_price_0 (l : Launch) (E : Ev) (d : Nat) (Q : Option Value → Hp → Prop) : Kt := k_aload 1 (k_callV l E 7 15 YX7_forced d 0 0 0 (k_astore 2 (k_aload 2 (k_ifnonnull (k_aload 2 (k_push (.int 0) (k_aload 0 (k_getR 0 7 5 (k_aload 0 (k_getR 0 7 6 (k_callV l E 2 3 YX2_tells d 0 0 3 (Go l E YX0_price (d + 1) 0 0 Q 0 0 27)))))))) (k_push (.int (-2147483648)) (Go l E YX0_price (d + 1) 0 0 Q 0 0 27))))))
set_option maxRecDepth 100000 in
set_option maxHeartbeats 4000000 in
theorem gX0_price_0 {l : Launch} {E : Ev} {d : Nat} {Q : Option Value → Hp → Prop} {ls : Lv} {st : List Value} {h : Hp} (hB : bX0_price_0 l E d Q ls st h) : Go l E YX0_price (d + 1) 0 0 Q 0 0 0 ls st h :=
  (sd_aload_n (i := 1) rfl dX0_price_0 (sd_callV (Y' := YX7_forced) (mc' := 0) (ms' := 0) (n := 0) clsX7.1 mw_559 mw_560 mw_561 mw_101 mw_562 rfl (okmX7_forced) (by decide) (Nat.le_refl _) (by decide) (by decide) dX0_price_1 (sd_astore_n (i := 2) rfl (by decide) dX0_price_4 (sd_aload_n (i := 2) rfl dX0_price_5 (sd_ifnonnull (tgt := 14) (by decide) dX0_price_6 (sd_aload_n (i := 2) rfl dX0_price_14 (sd_iconst (v := 0) (by decide) dX0_price_15 (sd_aload_n (i := 0) rfl dX0_price_16 (sd_getR clsX0 (f := 5) (by decide) (fun _ _ _ => rfl) mw_285 dX0_price_17 (sd_aload_n (i := 0) rfl dX0_price_20 (sd_getR clsX0 (f := 6) (by decide) (fun _ _ _ => rfl) mw_286 dX0_price_21 (sd_callV (Y' := YX2_tells) (mc' := 0) (ms' := 0) (n := 3) clsX2.1 mw_563 mw_564 mw_565 mw_110 mw_566 rfl (okmX2_tells) (by decide) (Nat.le_refl _) (by decide) (by decide) dX0_price_24 (Sd.go)))))))) (sd_ldc (v := (-2147483648)) mw_581 dX0_price_9 (sd_goto (tgt := 27) (by decide) dX0_price_11 (Sd.go))))))) : Sd l E YX0_price (d + 1) 0 0 Q 0 0 0 (bX0_price_0 l E d Q)) ls st h hB
def bX0_price_27 (l : Launch) (E : Ev) (d : Nat) (Q : Option Value → Hp → Prop) : Kt := k_istore 3 (k_iload 3 (k_push (.int (-2147483648)) (k_icmp_ne (k_push (.int 0) (k_push (.int 99) (k_iload 3 (k_mmin (k_mmax (k_iret .int Q)))))) (k_push (.int 1) (k_aload 0 (k_getR 0 7 5 (k_push (.int 8) (k_iaload (k_isub (k_iret .int Q))))))))))
set_option maxRecDepth 100000 in
set_option maxHeartbeats 4000000 in
theorem gX0_price_27 {l : Launch} {E : Ev} {d : Nat} {Q : Option Value → Hp → Prop} {ls : Lv} {st : List Value} {h : Hp} (hB : bX0_price_27 l E d Q ls st h) : Go l E YX0_price (d + 1) 0 0 Q 0 0 27 ls st h :=
  (sd_istore_n (i := 3) rfl (by decide) dX0_price_27 (sd_iload_n (i := 3) rfl dX0_price_28 (sd_ldc (v := (-2147483648)) mw_581 dX0_price_29 (sd_icmp_ne (tgt := 46) (by decide) dX0_price_31 (sd_iconst (v := 0) (by decide) dX0_price_46 (sd_bipush (v := 99) (by decide) dX0_price_47 (sd_iload_n (i := 3) rfl dX0_price_49 (sd_mmin mw_586 mw_587 mw_109 mw_588 (by omega) (by decide) (by decide) dX0_price_50 (sd_mmax mw_589 mw_574 mw_109 mw_575 (by omega) (by decide) (by decide) dX0_price_53 (sd_iret (ty := .int) rfl (by decide) (by decide) dX0_price_56)))))) (sd_iconst (v := 1) (by decide) dX0_price_34 (sd_aload_n (i := 0) rfl dX0_price_35 (sd_getR clsX0 (f := 5) (by decide) (fun _ _ _ => rfl) mw_285 dX0_price_36 (sd_bipush (v := 8) (by decide) dX0_price_39 (sd_iaload dX0_price_41 (sd_isub dX0_price_42 (sd_goto (tgt := 56) (by decide) dX0_price_43 (sd_iret (ty := .int) rfl (by decide) (by decide) dX0_price_56))))))))))) : Sd l E YX0_price (d + 1) 0 0 Q 0 0 27 (bX0_price_27 l E d Q)) ls st h hB
theorem eX0_price {l : Launch} {E : Ev} {d : Nat} {Q : Option Value → Hp → Prop} {h : Hp} {a0 : Nat} {x1 : Nat} (hk : Go l E YX0_price d 0 0 Q 0 0 0 [some (.ref a0), some (.ref x1), none, none] [] h) : GoM l E YX0_price d 0 0 [.ref a0, .ref x1] h Q := GoM.of (by decide +kernel) rfl (by simp [entA, YX0_price]) hk
theorem dX0_fading_0 : decode cX0_fading 0 = .ok (.aload_n 1, 1) := by decide +kernel
theorem dX0_fading_1 : decode cX0_fading 1 = .ok (.invokevirtual 68, 3) := by decide +kernel
theorem dX0_fading_4 : decode cX0_fading 4 = .ok (.astore_n 2, 1) := by decide +kernel
theorem dX0_fading_5 : decode cX0_fading 5 = .ok (.aload_n 2, 1) := by decide +kernel
theorem dX0_fading_6 : decode cX0_fading 6 = .ok (.ifnonnull 8, 3) := by decide +kernel
theorem dX0_fading_9 : decode cX0_fading 9 = .ok (.ldc 76, 2) := by decide +kernel
theorem dX0_fading_11 : decode cX0_fading 11 = .ok (.goto 16, 3) := by decide +kernel
theorem dX0_fading_14 : decode cX0_fading 14 = .ok (.aload_n 2, 1) := by decide +kernel
theorem dX0_fading_15 : decode cX0_fading 15 = .ok (.iconst 1, 1) := by decide +kernel
theorem dX0_fading_16 : decode cX0_fading 16 = .ok (.aload_n 0, 1) := by decide +kernel
theorem dX0_fading_17 : decode cX0_fading 17 = .ok (.getfield 21, 3) := by decide +kernel
theorem dX0_fading_20 : decode cX0_fading 20 = .ok (.aload_n 0, 1) := by decide +kernel
theorem dX0_fading_21 : decode cX0_fading 21 = .ok (.getfield 26, 3) := by decide +kernel
theorem dX0_fading_24 : decode cX0_fading 24 = .ok (.invokevirtual 72, 3) := by decide +kernel
theorem dX0_fading_27 : decode cX0_fading 27 = .ok (.istore_n 3, 1) := by decide +kernel
theorem dX0_fading_28 : decode cX0_fading 28 = .ok (.iload_n 3, 1) := by decide +kernel
theorem dX0_fading_29 : decode cX0_fading 29 = .ok (.ldc 76, 2) := by decide +kernel
theorem dX0_fading_31 : decode cX0_fading 31 = .ok (.if_icmp .ne 7, 3) := by decide +kernel
theorem dX0_fading_34 : decode cX0_fading 34 = .ok (.iconst 0, 1) := by decide +kernel
theorem dX0_fading_35 : decode cX0_fading 35 = .ok (.goto 13, 3) := by decide +kernel
theorem dX0_fading_38 : decode cX0_fading 38 = .ok (.iconst 0, 1) := by decide +kernel
theorem dX0_fading_39 : decode cX0_fading 39 = .ok (.bipush 9, 2) := by decide +kernel
theorem dX0_fading_41 : decode cX0_fading 41 = .ok (.iload_n 3, 1) := by decide +kernel
theorem dX0_fading_42 : decode cX0_fading 42 = .ok (.invokestatic 77, 3) := by decide +kernel
theorem dX0_fading_45 : decode cX0_fading 45 = .ok (.invokestatic 83, 3) := by decide +kernel
theorem dX0_fading_48 : decode cX0_fading 48 = .ok (.ireturn, 1) := by decide +kernel
def bX0_fading_0 (l : Launch) (E : Ev) (d : Nat) (Q : Option Value → Hp → Prop) : Kt := k_aload 1 (k_callV l E 7 15 YX7_forced d 0 0 0 (k_astore 2 (k_aload 2 (k_ifnonnull (k_aload 2 (k_push (.int 1) (k_aload 0 (k_getR 0 7 5 (k_aload 0 (k_getR 0 7 6 (k_callV l E 2 3 YX2_tells d 0 0 3 (Go l E YX0_fading (d + 1) 0 0 Q 0 0 27)))))))) (k_push (.int (-2147483648)) (Go l E YX0_fading (d + 1) 0 0 Q 0 0 27))))))
set_option maxRecDepth 100000 in
set_option maxHeartbeats 4000000 in
theorem gX0_fading_0 {l : Launch} {E : Ev} {d : Nat} {Q : Option Value → Hp → Prop} {ls : Lv} {st : List Value} {h : Hp} (hB : bX0_fading_0 l E d Q ls st h) : Go l E YX0_fading (d + 1) 0 0 Q 0 0 0 ls st h :=
  (sd_aload_n (i := 1) rfl dX0_fading_0 (sd_callV (Y' := YX7_forced) (mc' := 0) (ms' := 0) (n := 0) clsX7.1 mw_559 mw_560 mw_561 mw_101 mw_562 rfl (okmX7_forced) (by decide) (Nat.le_refl _) (by decide) (by decide) dX0_fading_1 (sd_astore_n (i := 2) rfl (by decide) dX0_fading_4 (sd_aload_n (i := 2) rfl dX0_fading_5 (sd_ifnonnull (tgt := 14) (by decide) dX0_fading_6 (sd_aload_n (i := 2) rfl dX0_fading_14 (sd_iconst (v := 1) (by decide) dX0_fading_15 (sd_aload_n (i := 0) rfl dX0_fading_16 (sd_getR clsX0 (f := 5) (by decide) (fun _ _ _ => rfl) mw_285 dX0_fading_17 (sd_aload_n (i := 0) rfl dX0_fading_20 (sd_getR clsX0 (f := 6) (by decide) (fun _ _ _ => rfl) mw_286 dX0_fading_21 (sd_callV (Y' := YX2_tells) (mc' := 0) (ms' := 0) (n := 3) clsX2.1 mw_563 mw_564 mw_565 mw_110 mw_566 rfl (okmX2_tells) (by decide) (Nat.le_refl _) (by decide) (by decide) dX0_fading_24 (Sd.go)))))))) (sd_ldc (v := (-2147483648)) mw_581 dX0_fading_9 (sd_goto (tgt := 27) (by decide) dX0_fading_11 (Sd.go))))))) : Sd l E YX0_fading (d + 1) 0 0 Q 0 0 0 (bX0_fading_0 l E d Q)) ls st h hB
def bX0_fading_27 (l : Launch) (E : Ev) (d : Nat) (Q : Option Value → Hp → Prop) : Kt := k_istore 3 (k_iload 3 (k_push (.int (-2147483648)) (k_icmp_ne (k_push (.int 0) (k_push (.int 9) (k_iload 3 (k_mmin (k_mmax (k_iret .int Q)))))) (k_push (.int 0) (k_iret .int Q)))))
set_option maxRecDepth 100000 in
set_option maxHeartbeats 4000000 in
theorem gX0_fading_27 {l : Launch} {E : Ev} {d : Nat} {Q : Option Value → Hp → Prop} {ls : Lv} {st : List Value} {h : Hp} (hB : bX0_fading_27 l E d Q ls st h) : Go l E YX0_fading (d + 1) 0 0 Q 0 0 27 ls st h :=
  (sd_istore_n (i := 3) rfl (by decide) dX0_fading_27 (sd_iload_n (i := 3) rfl dX0_fading_28 (sd_ldc (v := (-2147483648)) mw_581 dX0_fading_29 (sd_icmp_ne (tgt := 38) (by decide) dX0_fading_31 (sd_iconst (v := 0) (by decide) dX0_fading_38 (sd_bipush (v := 9) (by decide) dX0_fading_39 (sd_iload_n (i := 3) rfl dX0_fading_41 (sd_mmin mw_586 mw_587 mw_109 mw_588 (by omega) (by decide) (by decide) dX0_fading_42 (sd_mmax mw_589 mw_574 mw_109 mw_575 (by omega) (by decide) (by decide) dX0_fading_45 (sd_iret (ty := .int) rfl (by decide) (by decide) dX0_fading_48)))))) (sd_iconst (v := 0) (by decide) dX0_fading_34 (sd_goto (tgt := 48) (by decide) dX0_fading_35 (sd_iret (ty := .int) rfl (by decide) (by decide) dX0_fading_48)))))) : Sd l E YX0_fading (d + 1) 0 0 Q 0 0 27 (bX0_fading_27 l E d Q)) ls st h hB
theorem eX0_fading {l : Launch} {E : Ev} {d : Nat} {Q : Option Value → Hp → Prop} {h : Hp} {a0 : Nat} {x1 : Nat} (hk : Go l E YX0_fading d 0 0 Q 0 0 0 [some (.ref a0), some (.ref x1), none, none] [] h) : GoM l E YX0_fading d 0 0 [.ref a0, .ref x1] h Q := GoM.of (by decide +kernel) rfl (by simp [entA, YX0_fading]) hk
