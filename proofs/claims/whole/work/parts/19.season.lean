theorem dX6_init_0 : decode cX6_init 0 = .ok (.aload_n 0, 1) := by decide +kernel
theorem dX6_init_1 : decode cX6_init 1 = .ok (.invokespecial 3, 3) := by decide +kernel
theorem dX6_init_4 : decode cX6_init 4 = .ok (.aload_n 0, 1) := by decide +kernel
theorem dX6_init_5 : decode cX6_init 5 = .ok (.bipush 40, 2) := by decide +kernel
theorem dX6_init_7 : decode cX6_init 7 = .ok (.newarray .int, 2) := by decide +kernel
theorem dX6_init_9 : decode cX6_init 9 = .ok (.putfield 9, 3) := by decide +kernel
theorem dX6_init_12 : decode cX6_init 12 = .ok (.aload_n 0, 1) := by decide +kernel
theorem dX6_init_13 : decode cX6_init 13 = .ok (.bipush 40, 2) := by decide +kernel
theorem dX6_init_15 : decode cX6_init 15 = .ok (.newarray .long, 2) := by decide +kernel
theorem dX6_init_17 : decode cX6_init 17 = .ok (.putfield 15, 3) := by decide +kernel
theorem dX6_init_20 : decode cX6_init 20 = .ok (.aload_n 0, 1) := by decide +kernel
theorem dX6_init_21 : decode cX6_init 21 = .ok (.bipush 64, 2) := by decide +kernel
theorem dX6_init_23 : decode cX6_init 23 = .ok (.newarray .int, 2) := by decide +kernel
theorem dX6_init_25 : decode cX6_init 25 = .ok (.putfield 19, 3) := by decide +kernel
theorem dX6_init_28 : decode cX6_init 28 = .ok (.return_, 1) := by decide +kernel
def bX6_init_0 (l : Launch) (E : Ev) (d : Nat) (Q : Option Value → Hp → Prop) : Kt := k_aload 0 (k_objInit (k_aload 0 (k_push (.int 40) (k_newarr 1 40 (k_putR 6 7 3 (k_aload 0 (k_push (.int 40) (k_newarr 2 40 (k_putR 6 7 4 (k_aload 0 (k_push (.int 64) (k_newarr 1 64 (k_putR 6 7 5 (k_vret Q))))))))))))))
set_option maxRecDepth 100000 in
set_option maxHeartbeats 4000000 in
theorem gX6_init_0 {l : Launch} {E : Ev} {d : Nat} {Q : Option Value → Hp → Prop} {ls : Lv} {st : List Value} {h : Hp} (hB : bX6_init_0 l E d Q ls st h) : Go l E YX6_init (d + 1) 3 144 Q 0 0 0 ls st h :=
  (sd_aload_n (i := 0) rfl dX6_init_0 (sd_objInit mw_402 mw_125 mw_126 (by omega) dX6_init_1 (sd_aload_n (i := 0) rfl dX6_init_4 (sd_bipush (v := 40) (by decide) dX6_init_5 (sd_newarr (at' := .int) (ki := 1) (B := 40) (by decide) mw_214 (by decide) (by decide) (by decide) dX6_init_7 (sd_putR clsX6 (f := 3) (by decide) (fun _ _ _ => rfl) rfl (Or.inr ⟨rfl, rfl, rfl⟩) mw_409 dX6_init_9 (sd_aload_n (i := 0) rfl dX6_init_12 (sd_bipush (v := 40) (by decide) dX6_init_13 (sd_newarr (at' := .long) (ki := 2) (B := 40) (by decide) mw_343 (by decide) (by decide) (by decide) dX6_init_15 (sd_putR clsX6 (f := 4) (by decide) (fun _ _ _ => rfl) rfl (Or.inr ⟨rfl, rfl, rfl⟩) mw_411 dX6_init_17 (sd_aload_n (i := 0) rfl dX6_init_20 (sd_bipush (v := 64) (by decide) dX6_init_21 (sd_newarr (at' := .int) (ki := 1) (B := 64) (by decide) mw_214 (by decide) (by decide) (by decide) dX6_init_23 (sd_putR clsX6 (f := 5) (by decide) (fun _ _ _ => rfl) rfl (Or.inr ⟨rfl, rfl, rfl⟩) mw_413 dX6_init_25 (sd_vret rfl (by decide) (by decide) dX6_init_28)))))))))))))) : Sd l E YX6_init (d + 1) 3 144 Q 0 0 0 (bX6_init_0 l E d Q)) ls st h hB
theorem eX6_init {l : Launch} {E : Ev} {d : Nat} {Q : Option Value → Hp → Prop} {h : Hp} {a0 : Nat} (hk : Go l E YX6_init d 3 144 Q 0 0 0 [some (.ref a0)] [] h) : GoM l E YX6_init d 3 144 [.ref a0] h Q := GoM.of (by decide +kernel) rfl (by simp [entA, YX6_init]) hk
theorem dX6_play_0 : decode cX6_play 0 = .ok (.aload_n 0, 1) := by decide +kernel
theorem dX6_play_1 : decode cX6_play 1 = .ok (.iload_n 3, 1) := by decide +kernel
theorem dX6_play_2 : decode cX6_play 2 = .ok (.bipush 40, 2) := by decide +kernel
theorem dX6_play_4 : decode cX6_play 4 = .ok (.invokestatic 22, 3) := by decide +kernel
theorem dX6_play_7 : decode cX6_play 7 = .ok (.putfield 28, 3) := by decide +kernel
theorem dX6_play_10 : decode cX6_play 10 = .ok (.aload_n 0, 1) := by decide +kernel
theorem dX6_play_11 : decode cX6_play 11 = .ok (.aload_n 1, 1) := by decide +kernel
theorem dX6_play_12 : decode cX6_play 12 = .ok (.getfield 32, 3) := by decide +kernel
theorem dX6_play_15 : decode cX6_play 15 = .ok (.putfield 37, 3) := by decide +kernel
theorem dX6_play_18 : decode cX6_play 18 = .ok (.aload_n 0, 1) := by decide +kernel
theorem dX6_play_19 : decode cX6_play 19 = .ok (.aload_n 1, 1) := by decide +kernel
theorem dX6_play_20 : decode cX6_play 20 = .ok (.getfield 38, 3) := by decide +kernel
theorem dX6_play_23 : decode cX6_play 23 = .ok (.putfield 41, 3) := by decide +kernel
theorem dX6_play_26 : decode cX6_play 26 = .ok (.aload_n 1, 1) := by decide +kernel
theorem dX6_play_27 : decode cX6_play 27 = .ok (.getfield 42, 3) := by decide +kernel
theorem dX6_play_30 : decode cX6_play 30 = .ok (.iconst 0, 1) := by decide +kernel
theorem dX6_play_31 : decode cX6_play 31 = .ok (.aload_n 0, 1) := by decide +kernel
theorem dX6_play_32 : decode cX6_play 32 = .ok (.getfield 19, 3) := by decide +kernel
theorem dX6_play_35 : decode cX6_play 35 = .ok (.iconst 0, 1) := by decide +kernel
theorem dX6_play_36 : decode cX6_play 36 = .ok (.bipush 64, 2) := by decide +kernel
theorem dX6_play_38 : decode cX6_play 38 = .ok (.invokestatic 43, 3) := by decide +kernel
theorem dX6_play_41 : decode cX6_play 41 = .ok (.aload_n 0, 1) := by decide +kernel
theorem dX6_play_42 : decode cX6_play 42 = .ok (.iload_n 2, 1) := by decide +kernel
theorem dX6_play_43 : decode cX6_play 43 = .ok (.putfield 49, 3) := by decide +kernel
theorem dX6_play_46 : decode cX6_play 46 = .ok (.iconst 0, 1) := by decide +kernel
theorem dX6_play_47 : decode cX6_play 47 = .ok (.istore 6, 2) := by decide +kernel
theorem dX6_play_49 : decode cX6_play 49 = .ok (.iconst 0, 1) := by decide +kernel
theorem dX6_play_50 : decode cX6_play 50 = .ok (.istore 7, 2) := by decide +kernel
theorem dX6_play_52 : decode cX6_play 52 = .ok (.iload 7, 2) := by decide +kernel
theorem dX6_play_54 : decode cX6_play 54 = .ok (.aload_n 0, 1) := by decide +kernel
theorem dX6_play_55 : decode cX6_play 55 = .ok (.getfield 28, 3) := by decide +kernel
theorem dX6_play_58 : decode cX6_play 58 = .ok (.if_icmp .ge 116, 3) := by decide +kernel
theorem dX6_play_61 : decode cX6_play 61 = .ok (.aload_n 1, 1) := by decide +kernel
theorem dX6_play_62 : decode cX6_play 62 = .ok (.getfield 52, 3) := by decide +kernel
theorem dX6_play_65 : decode cX6_play 65 = .ok (.iconst 2, 1) := by decide +kernel
theorem dX6_play_66 : decode cX6_play 66 = .ok (.iaload, 1) := by decide +kernel
theorem dX6_play_67 : decode cX6_play 67 = .ok (.iload 7, 2) := by decide +kernel
theorem dX6_play_69 : decode cX6_play 69 = .ok (.iadd, 1) := by decide +kernel
theorem dX6_play_70 : decode cX6_play 70 = .ok (.istore 8, 2) := by decide +kernel
theorem dX6_play_72 : decode cX6_play 72 = .ok (.aload_n 0, 1) := by decide +kernel
theorem dX6_play_73 : decode cX6_play 73 = .ok (.getfield 9, 3) := by decide +kernel
theorem dX6_play_76 : decode cX6_play 76 = .ok (.iload 7, 2) := by decide +kernel
theorem dX6_play_78 : decode cX6_play 78 = .ok (.aload_n 0, 1) := by decide +kernel
theorem dX6_play_79 : decode cX6_play 79 = .ok (.aload_n 1, 1) := by decide +kernel
theorem dX6_play_80 : decode cX6_play 80 = .ok (.invokevirtual 55, 3) := by decide +kernel
theorem dX6_play_83 : decode cX6_play 83 = .ok (.iastore, 1) := by decide +kernel
theorem dX6_play_84 : decode cX6_play 84 = .ok (.aload 4, 2) := by decide +kernel
theorem dX6_play_86 : decode cX6_play 86 = .ok (.aload_n 1, 1) := by decide +kernel
theorem dX6_play_87 : decode cX6_play 87 = .ok (.aload_n 0, 1) := by decide +kernel
theorem dX6_play_88 : decode cX6_play 88 = .ok (.getfield 19, 3) := by decide +kernel
theorem dX6_play_91 : decode cX6_play 91 = .ok (.iload 8, 2) := by decide +kernel
theorem dX6_play_93 : decode cX6_play 93 = .ok (.invokevirtual 59, 3) := by decide +kernel
theorem dX6_play_96 : decode cX6_play 96 = .ok (.aload 4, 2) := by decide +kernel
theorem dX6_play_98 : decode cX6_play 98 = .ok (.aload_n 1, 1) := by decide +kernel
theorem dX6_play_99 : decode cX6_play 99 = .ok (.aload_n 0, 1) := by decide +kernel
theorem dX6_play_100 : decode cX6_play 100 = .ok (.getfield 19, 3) := by decide +kernel
theorem dX6_play_103 : decode cX6_play 103 = .ok (.iload 8, 2) := by decide +kernel
theorem dX6_play_105 : decode cX6_play 105 = .ok (.invokevirtual 65, 3) := by decide +kernel
theorem dX6_play_108 : decode cX6_play 108 = .ok (.aload_n 0, 1) := by decide +kernel
theorem dX6_play_109 : decode cX6_play 109 = .ok (.getfield 15, 3) := by decide +kernel
theorem dX6_play_112 : decode cX6_play 112 = .ok (.iload 7, 2) := by decide +kernel
theorem dX6_play_114 : decode cX6_play 114 = .ok (.aload 5, 2) := by decide +kernel
theorem dX6_play_116 : decode cX6_play 116 = .ok (.aload 4, 2) := by decide +kernel
theorem dX6_play_118 : decode cX6_play 118 = .ok (.aload_n 0, 1) := by decide +kernel
theorem dX6_play_119 : decode cX6_play 119 = .ok (.getfield 9, 3) := by decide +kernel
theorem dX6_play_122 : decode cX6_play 122 = .ok (.iload 7, 2) := by decide +kernel
theorem dX6_play_124 : decode cX6_play 124 = .ok (.iaload, 1) := by decide +kernel
theorem dX6_play_125 : decode cX6_play 125 = .ok (.invokevirtual 68, 3) := by decide +kernel
theorem dX6_play_128 : decode cX6_play 128 = .ok (.lastore, 1) := by decide +kernel
theorem dX6_play_129 : decode cX6_play 129 = .ok (.iload 6, 2) := by decide +kernel
theorem dX6_play_131 : decode cX6_play 131 = .ok (.aload_n 0, 1) := by decide +kernel
theorem dX6_play_132 : decode cX6_play 132 = .ok (.getfield 15, 3) := by decide +kernel
theorem dX6_play_135 : decode cX6_play 135 = .ok (.iload 7, 2) := by decide +kernel
theorem dX6_play_137 : decode cX6_play 137 = .ok (.laload, 1) := by decide +kernel
theorem dX6_play_138 : decode cX6_play 138 = .ok (.invokestatic 74, 3) := by decide +kernel
theorem dX6_play_141 : decode cX6_play 141 = .ok (.ifCond .eq 7, 3) := by decide +kernel
theorem dX6_play_144 : decode cX6_play 144 = .ok (.iconst 1, 1) := by decide +kernel
theorem dX6_play_145 : decode cX6_play 145 = .ok (.goto 4, 3) := by decide +kernel
theorem dX6_play_148 : decode cX6_play 148 = .ok (.iconst 0, 1) := by decide +kernel
theorem dX6_play_149 : decode cX6_play 149 = .ok (.iadd, 1) := by decide +kernel
theorem dX6_play_150 : decode cX6_play 150 = .ok (.istore 6, 2) := by decide +kernel
theorem dX6_play_152 : decode cX6_play 152 = .ok (.aload_n 0, 1) := by decide +kernel
theorem dX6_play_153 : decode cX6_play 153 = .ok (.aload_n 1, 1) := by decide +kernel
theorem dX6_play_154 : decode cX6_play 154 = .ok (.iload 8, 2) := by decide +kernel
theorem dX6_play_156 : decode cX6_play 156 = .ok (.aload_n 0, 1) := by decide +kernel
theorem dX6_play_157 : decode cX6_play 157 = .ok (.getfield 15, 3) := by decide +kernel
theorem dX6_play_160 : decode cX6_play 160 = .ok (.iload 7, 2) := by decide +kernel
theorem dX6_play_162 : decode cX6_play 162 = .ok (.laload, 1) := by decide +kernel
theorem dX6_play_163 : decode cX6_play 163 = .ok (.aload 4, 2) := by decide +kernel
theorem dX6_play_165 : decode cX6_play 165 = .ok (.invokevirtual 78, 3) := by decide +kernel
theorem dX6_play_168 : decode cX6_play 168 = .ok (.iinc 7 1, 3) := by decide +kernel
theorem dX6_play_171 : decode cX6_play 171 = .ok (.goto (-119), 3) := by decide +kernel
theorem dX6_play_174 : decode cX6_play 174 = .ok (.iload 6, 2) := by decide +kernel
theorem dX6_play_176 : decode cX6_play 176 = .ok (.ireturn, 1) := by decide +kernel
def bX6_play_0 (l : Launch) (E : Ev) (d : Nat) (Q : Option Value → Hp → Prop) : Kt := k_aload 0 (k_iload 3 (k_push (.int 40) (k_mmin (k_putI 6 7 0 (k_aload 0 (k_aload 1 (k_getI 7 15 0 (k_putI 6 7 1 (k_aload 0 (k_aload 1 (k_getI 7 15 1 (k_putI 6 7 2 (k_aload 1 (k_getR 7 15 5 (k_push (.int 0) (k_aload 0 (k_getR 6 7 5 (k_push (.int 0) (k_push (.int 64) (k_copyI (k_aload 0 (k_iload 2 (k_putI 6 7 6 (k_push (.int 0) (k_istore 6 (k_push (.int 0) (k_istore 7 (Go l E YX6_play (d + 1) 0 0 Q 0 0 52))))))))))))))))))))))))))))
set_option maxRecDepth 100000 in
set_option maxHeartbeats 4000000 in
theorem gX6_play_0 {l : Launch} {E : Ev} {d : Nat} {Q : Option Value → Hp → Prop} {ls : Lv} {st : List Value} {h : Hp} (hB : bX6_play_0 l E d Q ls st h) : Go l E YX6_play (d + 1) 0 0 Q 0 0 0 ls st h :=
  (sd_aload_n (i := 0) rfl dX6_play_0 (sd_iload_n (i := 3) rfl dX6_play_1 (sd_bipush (v := 40) (by decide) dX6_play_2 (sd_mmin mw_1108 mw_587 mw_109 mw_588 (by omega) (by decide) (by decide) dX6_play_4 (sd_putI clsX6 (f := 0) (by decide) (fun _ _ _ => rfl) rfl (Or.inl rfl) mw_403 dX6_play_7 (sd_aload_n (i := 0) rfl dX6_play_10 (sd_aload_n (i := 1) rfl dX6_play_11 (sd_getI clsX7 (f := 0) (by decide) (fun _ _ _ => rfl) mw_137 dX6_play_12 (sd_putI clsX6 (f := 1) (by decide) (fun _ _ _ => rfl) rfl (Or.inl rfl) mw_405 dX6_play_15 (sd_aload_n (i := 0) rfl dX6_play_18 (sd_aload_n (i := 1) rfl dX6_play_19 (sd_getI clsX7 (f := 1) (by decide) (fun _ _ _ => rfl) mw_141 dX6_play_20 (sd_putI clsX6 (f := 2) (by decide) (fun _ _ _ => rfl) rfl (Or.inl rfl) mw_407 dX6_play_23 (sd_aload_n (i := 1) rfl dX6_play_26 (sd_getR clsX7 (f := 5) (by decide) (fun _ _ _ => rfl) mw_157 dX6_play_27 (sd_iconst (v := 0) (by decide) dX6_play_30 (sd_aload_n (i := 0) rfl dX6_play_31 (sd_getR clsX6 (f := 5) (by decide) (fun _ _ _ => rfl) mw_413 dX6_play_32 (sd_iconst (v := 0) (by decide) dX6_play_35 (sd_bipush (v := 64) (by decide) dX6_play_36 (sd_copyI mw_1109 mw_744 mw_743 mw_116 (by omega) dX6_play_38 (sd_aload_n (i := 0) rfl dX6_play_41 (sd_iload_n (i := 2) rfl dX6_play_42 (sd_putI clsX6 (f := 6) (by decide) (fun _ _ _ => rfl) rfl (Or.inl rfl) mw_415 dX6_play_43 (sd_iconst (v := 0) (by decide) dX6_play_46 (sd_istore (i := 6) (by decide) dX6_play_47 (sd_iconst (v := 0) (by decide) dX6_play_49 (sd_istore (i := 7) (by decide) dX6_play_50 (Sd.go)))))))))))))))))))))))))))) : Sd l E YX6_play (d + 1) 0 0 Q 0 0 0 (bX6_play_0 l E d Q)) ls st h hB
def bX6_play_52 (l : Launch) (E : Ev) (d : Nat) (Q : Option Value → Hp → Prop) : Kt := k_iload 7 (k_aload 0 (k_getI 6 7 0 (k_icmp_ge (k_iload 6 (k_iret .int Q)) (k_aload 1 (k_getR 7 15 7 (k_push (.int 2) (k_iaload (k_iload 7 (k_iadd (k_istore 8 (k_aload 0 (k_getR 6 7 3 (k_iload 7 (k_aload 0 (k_aload 1 (k_callV l E 6 7 YX6_drawIll d 0 0 1 (k_iastore (k_aload 4 (k_aload 1 (k_aload 0 (k_getR 6 7 5 (k_iload 8 (k_callV l E 0 7 YX0_fillAble d 0 0 3 (k_aload 4 (k_aload 1 (k_aload 0 (k_getR 6 7 5 (k_iload 8 (k_callV l E 0 7 YX0_fillCosts d 0 0 3 (k_aload 0 (k_getR 6 7 4 (k_iload 7 (k_aload 5 (k_aload 4 (k_aload 0 (k_getR 6 7 3 (k_iload 7 (k_iaload (k_callV l E 3 10 YX3_firstOf d 0 0 2 (k_lastore (k_iload 6 (k_aload 0 (k_getR 6 7 4 (k_iload 7 (k_laload (k_callS l E YX3_isNone d 0 0 1 (k_if_eq (k_push (.int 0) (Go l E YX6_play (d + 1) 0 0 Q 0 0 149)) (k_push (.int 1) (Go l E YX6_play (d + 1) 0 0 Q 0 0 149)))))))))))))))))))))))))))))))))))))))))))))))))
set_option maxRecDepth 100000 in
set_option maxHeartbeats 4000000 in
theorem gX6_play_52 {l : Launch} {E : Ev} {d : Nat} {Q : Option Value → Hp → Prop} {ls : Lv} {st : List Value} {h : Hp} (hB : bX6_play_52 l E d Q ls st h) : Go l E YX6_play (d + 1) 0 0 Q 0 0 52 ls st h :=
  (sd_iload (n := 7) dX6_play_52 (sd_aload_n (i := 0) rfl dX6_play_54 (sd_getI clsX6 (f := 0) (by decide) (fun _ _ _ => rfl) mw_403 dX6_play_55 (sd_icmp_ge (tgt := 174) (by decide) dX6_play_58 (sd_iload (n := 6) dX6_play_174 (sd_iret (ty := .int) rfl (by decide) (by decide) dX6_play_176)) (sd_aload_n (i := 1) rfl dX6_play_61 (sd_getR clsX7 (f := 7) (by decide) (fun _ _ _ => rfl) mw_164 dX6_play_62 (sd_iconst (v := 2) (by decide) dX6_play_65 (sd_iaload dX6_play_66 (sd_iload (n := 7) dX6_play_67 (sd_iadd dX6_play_69 (sd_istore (i := 8) (by decide) dX6_play_70 (sd_aload_n (i := 0) rfl dX6_play_72 (sd_getR clsX6 (f := 3) (by decide) (fun _ _ _ => rfl) mw_409 dX6_play_73 (sd_iload (n := 7) dX6_play_76 (sd_aload_n (i := 0) rfl dX6_play_78 (sd_aload_n (i := 1) rfl dX6_play_79 (sd_callV (Y' := YX6_drawIll) (mc' := 0) (ms' := 0) (n := 1) clsX6.1 mw_1110 mw_1112 mw_43 mw_107 mw_1113 rfl (okmX6_drawIll) (by decide) (Nat.le_refl _) (by decide) (by decide) dX6_play_80 (sd_iastore dX6_play_83 (sd_aload (n := 4) dX6_play_84 (sd_aload_n (i := 1) rfl dX6_play_86 (sd_aload_n (i := 0) rfl dX6_play_87 (sd_getR clsX6 (f := 5) (by decide) (fun _ _ _ => rfl) mw_413 dX6_play_88 (sd_iload (n := 8) dX6_play_91 (sd_callV (Y' := YX0_fillAble) (mc' := 0) (ms' := 0) (n := 3) clsX0.1 mw_1117 mw_777 mw_778 mw_103 mw_779 rfl (okmX0_fillAble) (by decide) (Nat.le_refl _) (by decide) (by decide) dX6_play_93 (sd_aload (n := 4) dX6_play_96 (sd_aload_n (i := 1) rfl dX6_play_98 (sd_aload_n (i := 0) rfl dX6_play_99 (sd_getR clsX6 (f := 5) (by decide) (fun _ _ _ => rfl) mw_413 dX6_play_100 (sd_iload (n := 8) dX6_play_103 (sd_callV (Y' := YX0_fillCosts) (mc' := 0) (ms' := 0) (n := 3) clsX0.1 mw_1118 mw_786 mw_787 mw_103 mw_788 rfl (okmX0_fillCosts) (by decide) (Nat.le_refl _) (by decide) (by decide) dX6_play_105 (sd_aload_n (i := 0) rfl dX6_play_108 (sd_getR clsX6 (f := 4) (by decide) (fun _ _ _ => rfl) mw_411 dX6_play_109 (sd_iload (n := 7) dX6_play_112 (sd_aload (n := 5) dX6_play_114 (sd_aload (n := 4) dX6_play_116 (sd_aload_n (i := 0) rfl dX6_play_118 (sd_getR clsX6 (f := 3) (by decide) (fun _ _ _ => rfl) mw_409 dX6_play_119 (sd_iload (n := 7) dX6_play_122 (sd_iaload dX6_play_124 (sd_callV (Y' := YX3_firstOf) (mc' := 0) (ms' := 0) (n := 2) clsX3.1 mw_1119 mw_791 mw_792 mw_104 mw_793 rfl (okmX3_firstOf) (by decide) (Nat.le_refl _) (by decide) (by decide) dX6_play_125 (sd_lastore dX6_play_128 (sd_iload (n := 6) dX6_play_129 (sd_aload_n (i := 0) rfl dX6_play_131 (sd_getR clsX6 (f := 4) (by decide) (fun _ _ _ => rfl) mw_411 dX6_play_132 (sd_iload (n := 7) dX6_play_135 (sd_laload dX6_play_137 (sd_callS (Y' := YX3_isNone) (mc' := 0) (ms' := 0) (n := 1) mw_1120 mw_896 mw_104 mw_897 (okmX3_isNone) (by decide) (Nat.le_refl _) (by decide) (by decide) dX6_play_138 (sd_if_eq (tgt := 148) (by decide) dX6_play_141 (sd_iconst (v := 0) (by decide) dX6_play_148 (Sd.go)) (sd_iconst (v := 1) (by decide) dX6_play_144 (sd_goto (tgt := 149) (by decide) dX6_play_145 (Sd.go)))))))))))))))))))))))))))))))))))))))))))))))))) : Sd l E YX6_play (d + 1) 0 0 Q 0 0 52 (bX6_play_52 l E d Q)) ls st h hB
def bX6_play_149 (l : Launch) (E : Ev) (d : Nat) (Q : Option Value → Hp → Prop) : Kt := k_iadd (k_istore 6 (k_aload 0 (k_aload 1 (k_iload 8 (k_aload 0 (k_getR 6 7 4 (k_iload 7 (k_laload (k_aload 4 (k_callV l E 6 7 YX6_passWeek d 0 0 4 (k_iinc 7 1 (Go l E YX6_play (d + 1) 0 0 Q 0 0 52))))))))))))
set_option maxRecDepth 100000 in
set_option maxHeartbeats 4000000 in
theorem gX6_play_149 {l : Launch} {E : Ev} {d : Nat} {Q : Option Value → Hp → Prop} {ls : Lv} {st : List Value} {h : Hp} (hB : bX6_play_149 l E d Q ls st h) : Go l E YX6_play (d + 1) 0 0 Q 0 0 149 ls st h :=
  (sd_iadd dX6_play_149 (sd_istore (i := 6) (by decide) dX6_play_150 (sd_aload_n (i := 0) rfl dX6_play_152 (sd_aload_n (i := 1) rfl dX6_play_153 (sd_iload (n := 8) dX6_play_154 (sd_aload_n (i := 0) rfl dX6_play_156 (sd_getR clsX6 (f := 4) (by decide) (fun _ _ _ => rfl) mw_411 dX6_play_157 (sd_iload (n := 7) dX6_play_160 (sd_laload dX6_play_162 (sd_aload (n := 4) dX6_play_163 (sd_callV (Y' := YX6_passWeek) (mc' := 0) (ms' := 0) (n := 4) clsX6.1 mw_1121 mw_1123 mw_44 mw_107 mw_1124 rfl (okmX6_passWeek) (by decide) (Nat.le_refl _) (by decide) (by decide) dX6_play_165 (sd_iinc (i := 7) (v := 1) (by decide) (by decide) dX6_play_168 (sd_goto (tgt := 52) (by decide) dX6_play_171 (Sd.go))))))))))))) : Sd l E YX6_play (d + 1) 0 0 Q 0 0 149 (bX6_play_149 l E d Q)) ls st h hB
theorem eX6_play {l : Launch} {E : Ev} {d : Nat} {Q : Option Value → Hp → Prop} {h : Hp} {a0 : Nat} {x1 : Nat} {x2 : Int32} {x3 : Int32} {x4 : Nat} {x5 : Nat} (hk : Go l E YX6_play d 0 0 Q 0 0 0 [some (.ref a0), some (.ref x1), some (.int x2), some (.int x3), some (.ref x4), some (.ref x5), none, none, none] [] h) : GoM l E YX6_play d 0 0 [.ref a0, .ref x1, .int x2, .int x3, .ref x4, .ref x5] h Q := GoM.of (by decide +kernel) rfl (by simp [entA, YX6_play]) hk
theorem dX6_drawIll_0 : decode cX6_drawIll 0 = .ok (.iconst 0, 1) := by decide +kernel
theorem dX6_drawIll_1 : decode cX6_drawIll 1 = .ok (.istore_n 2, 1) := by decide +kernel
theorem dX6_drawIll_2 : decode cX6_drawIll 2 = .ok (.iconst 0, 1) := by decide +kernel
theorem dX6_drawIll_3 : decode cX6_drawIll 3 = .ok (.istore_n 3, 1) := by decide +kernel
theorem dX6_drawIll_4 : decode cX6_drawIll 4 = .ok (.iload_n 3, 1) := by decide +kernel
theorem dX6_drawIll_5 : decode cX6_drawIll 5 = .ok (.aload_n 0, 1) := by decide +kernel
theorem dX6_drawIll_6 : decode cX6_drawIll 6 = .ok (.getfield 37, 3) := by decide +kernel
theorem dX6_drawIll_9 : decode cX6_drawIll 9 = .ok (.if_icmp .ge 57, 3) := by decide +kernel
theorem dX6_drawIll_12 : decode cX6_drawIll 12 = .ok (.aload_n 0, 1) := by decide +kernel
theorem dX6_drawIll_13 : decode cX6_drawIll 13 = .ok (.aload_n 0, 1) := by decide +kernel
theorem dX6_drawIll_14 : decode cX6_drawIll 14 = .ok (.getfield 49, 3) := by decide +kernel
theorem dX6_drawIll_17 : decode cX6_drawIll 17 = .ok (.i2l, 1) := by decide +kernel
theorem dX6_drawIll_18 : decode cX6_drawIll 18 = .ok (.ldc2_w 82, 3) := by decide +kernel
theorem dX6_drawIll_21 : decode cX6_drawIll 21 = .ok (.lmul, 1) := by decide +kernel
theorem dX6_drawIll_22 : decode cX6_drawIll 22 = .ok (.ldc2_w 84, 3) := by decide +kernel
theorem dX6_drawIll_25 : decode cX6_drawIll 25 = .ok (.ladd, 1) := by decide +kernel
theorem dX6_drawIll_26 : decode cX6_drawIll 26 = .ok (.ldc2_w 86, 3) := by decide +kernel
theorem dX6_drawIll_29 : decode cX6_drawIll 29 = .ok (.lrem, 1) := by decide +kernel
theorem dX6_drawIll_30 : decode cX6_drawIll 30 = .ok (.l2i, 1) := by decide +kernel
theorem dX6_drawIll_31 : decode cX6_drawIll 31 = .ok (.putfield 49, 3) := by decide +kernel
theorem dX6_drawIll_34 : decode cX6_drawIll 34 = .ok (.aload_n 0, 1) := by decide +kernel
theorem dX6_drawIll_35 : decode cX6_drawIll 35 = .ok (.getfield 49, 3) := by decide +kernel
theorem dX6_drawIll_38 : decode cX6_drawIll 38 = .ok (.bipush 100, 2) := by decide +kernel
theorem dX6_drawIll_40 : decode cX6_drawIll 40 = .ok (.irem, 1) := by decide +kernel
theorem dX6_drawIll_41 : decode cX6_drawIll 41 = .ok (.aload_n 1, 1) := by decide +kernel
theorem dX6_drawIll_42 : decode cX6_drawIll 42 = .ok (.getfield 88, 3) := by decide +kernel
theorem dX6_drawIll_45 : decode cX6_drawIll 45 = .ok (.iload_n 3, 1) := by decide +kernel
theorem dX6_drawIll_46 : decode cX6_drawIll 46 = .ok (.iconst 4, 1) := by decide +kernel
theorem dX6_drawIll_47 : decode cX6_drawIll 47 = .ok (.imul, 1) := by decide +kernel
theorem dX6_drawIll_48 : decode cX6_drawIll 48 = .ok (.iconst 3, 1) := by decide +kernel
theorem dX6_drawIll_49 : decode cX6_drawIll 49 = .ok (.iadd, 1) := by decide +kernel
theorem dX6_drawIll_50 : decode cX6_drawIll 50 = .ok (.iaload, 1) := by decide +kernel
theorem dX6_drawIll_51 : decode cX6_drawIll 51 = .ok (.if_icmp .ge 9, 3) := by decide +kernel
theorem dX6_drawIll_54 : decode cX6_drawIll 54 = .ok (.iload_n 2, 1) := by decide +kernel
theorem dX6_drawIll_55 : decode cX6_drawIll 55 = .ok (.iconst 1, 1) := by decide +kernel
theorem dX6_drawIll_56 : decode cX6_drawIll 56 = .ok (.iload_n 3, 1) := by decide +kernel
theorem dX6_drawIll_57 : decode cX6_drawIll 57 = .ok (.ishl, 1) := by decide +kernel
theorem dX6_drawIll_58 : decode cX6_drawIll 58 = .ok (.ior, 1) := by decide +kernel
theorem dX6_drawIll_59 : decode cX6_drawIll 59 = .ok (.istore_n 2, 1) := by decide +kernel
theorem dX6_drawIll_60 : decode cX6_drawIll 60 = .ok (.iinc 3 1, 3) := by decide +kernel
theorem dX6_drawIll_63 : decode cX6_drawIll 63 = .ok (.goto (-59), 3) := by decide +kernel
theorem dX6_drawIll_66 : decode cX6_drawIll 66 = .ok (.iload_n 2, 1) := by decide +kernel
theorem dX6_drawIll_67 : decode cX6_drawIll 67 = .ok (.ireturn, 1) := by decide +kernel
def bX6_drawIll_0 (l : Launch) (E : Ev) (d : Nat) (Q : Option Value → Hp → Prop) : Kt := k_push (.int 0) (k_istore 2 (k_push (.int 0) (k_istore 3 (Go l E YX6_drawIll (d + 1) 0 0 Q 0 0 4))))
set_option maxRecDepth 100000 in
set_option maxHeartbeats 4000000 in
theorem gX6_drawIll_0 {l : Launch} {E : Ev} {d : Nat} {Q : Option Value → Hp → Prop} {ls : Lv} {st : List Value} {h : Hp} (hB : bX6_drawIll_0 l E d Q ls st h) : Go l E YX6_drawIll (d + 1) 0 0 Q 0 0 0 ls st h :=
  (sd_iconst (v := 0) (by decide) dX6_drawIll_0 (sd_istore_n (i := 2) rfl (by decide) dX6_drawIll_1 (sd_iconst (v := 0) (by decide) dX6_drawIll_2 (sd_istore_n (i := 3) rfl (by decide) dX6_drawIll_3 (Sd.go)))) : Sd l E YX6_drawIll (d + 1) 0 0 Q 0 0 0 (bX6_drawIll_0 l E d Q)) ls st h hB
def bX6_drawIll_4 (l : Launch) (E : Ev) (d : Nat) (Q : Option Value → Hp → Prop) : Kt := k_iload 3 (k_aload 0 (k_getI 6 7 1 (k_icmp_ge (k_iload 2 (k_iret .int Q)) (k_aload 0 (k_aload 0 (k_getI 6 7 6 (k_i2l (k_push (.long 1103) (k_lmul (k_push (.long 12345) (k_ladd (k_push (.long 1000003) (k_lrem (k_l2i (k_putI 6 7 6 (k_aload 0 (k_getI 6 7 6 (k_push (.int 100) (k_irem (k_aload 1 (k_getR 7 15 2 (k_iload 3 (k_push (.int 4) (k_imul (k_push (.int 3) (k_iadd (k_iaload (k_icmp_ge (k_iinc 3 1 (Go l E YX6_drawIll (d + 1) 0 0 Q 0 0 4)) (k_iload 2 (k_push (.int 1) (k_iload 3 (k_ishl (k_ior (k_istore 2 (k_iinc 3 1 (Go l E YX6_drawIll (d + 1) 0 0 Q 0 0 4))))))))))))))))))))))))))))))))))))
set_option maxRecDepth 100000 in
set_option maxHeartbeats 4000000 in
theorem gX6_drawIll_4 {l : Launch} {E : Ev} {d : Nat} {Q : Option Value → Hp → Prop} {ls : Lv} {st : List Value} {h : Hp} (hB : bX6_drawIll_4 l E d Q ls st h) : Go l E YX6_drawIll (d + 1) 0 0 Q 0 0 4 ls st h :=
  (sd_iload_n (i := 3) rfl dX6_drawIll_4 (sd_aload_n (i := 0) rfl dX6_drawIll_5 (sd_getI clsX6 (f := 1) (by decide) (fun _ _ _ => rfl) mw_405 dX6_drawIll_6 (sd_icmp_ge (tgt := 66) (by decide) dX6_drawIll_9 (sd_iload_n (i := 2) rfl dX6_drawIll_66 (sd_iret (ty := .int) rfl (by decide) (by decide) dX6_drawIll_67)) (sd_aload_n (i := 0) rfl dX6_drawIll_12 (sd_aload_n (i := 0) rfl dX6_drawIll_13 (sd_getI clsX6 (f := 6) (by decide) (fun _ _ _ => rfl) mw_415 dX6_drawIll_14 (sd_i2l dX6_drawIll_17 (sd_ldc2 (v := 1103) mw_1114 dX6_drawIll_18 (sd_lmul dX6_drawIll_21 (sd_ldc2 (v := 12345) mw_1115 dX6_drawIll_22 (sd_ladd dX6_drawIll_25 (sd_ldc2 (v := 1000003) mw_1116 dX6_drawIll_26 (sd_lrem dX6_drawIll_29 (sd_l2i dX6_drawIll_30 (sd_putI clsX6 (f := 6) (by decide) (fun _ _ _ => rfl) rfl (Or.inl rfl) mw_415 dX6_drawIll_31 (sd_aload_n (i := 0) rfl dX6_drawIll_34 (sd_getI clsX6 (f := 6) (by decide) (fun _ _ _ => rfl) mw_415 dX6_drawIll_35 (sd_bipush (v := 100) (by decide) dX6_drawIll_38 (sd_irem dX6_drawIll_40 (sd_aload_n (i := 1) rfl dX6_drawIll_41 (sd_getR clsX7 (f := 2) (by decide) (fun _ _ _ => rfl) mw_146 dX6_drawIll_42 (sd_iload_n (i := 3) rfl dX6_drawIll_45 (sd_iconst (v := 4) (by decide) dX6_drawIll_46 (sd_imul dX6_drawIll_47 (sd_iconst (v := 3) (by decide) dX6_drawIll_48 (sd_iadd dX6_drawIll_49 (sd_iaload dX6_drawIll_50 (sd_icmp_ge (tgt := 60) (by decide) dX6_drawIll_51 (sd_iinc (i := 3) (v := 1) (by decide) (by decide) dX6_drawIll_60 (sd_goto (tgt := 4) (by decide) dX6_drawIll_63 (Sd.go))) (sd_iload_n (i := 2) rfl dX6_drawIll_54 (sd_iconst (v := 1) (by decide) dX6_drawIll_55 (sd_iload_n (i := 3) rfl dX6_drawIll_56 (sd_ishl dX6_drawIll_57 (sd_ior dX6_drawIll_58 (sd_istore_n (i := 2) rfl (by decide) dX6_drawIll_59 (sd_iinc (i := 3) (v := 1) (by decide) (by decide) dX6_drawIll_60 (sd_goto (tgt := 4) (by decide) dX6_drawIll_63 (Sd.go))))))))))))))))))))))))))))))))))))) : Sd l E YX6_drawIll (d + 1) 0 0 Q 0 0 4 (bX6_drawIll_4 l E d Q)) ls st h hB
theorem eX6_drawIll {l : Launch} {E : Ev} {d : Nat} {Q : Option Value → Hp → Prop} {h : Hp} {a0 : Nat} {x1 : Nat} (hk : Go l E YX6_drawIll d 0 0 Q 0 0 0 [some (.ref a0), some (.ref x1), none, none] [] h) : GoM l E YX6_drawIll d 0 0 [.ref a0, .ref x1] h Q := GoM.of (by decide +kernel) rfl (by simp [entA, YX6_drawIll]) hk
theorem dX6_passWeek_0 : decode cX6_passWeek 0 = .ok (.iconst 0, 1) := by decide +kernel
theorem dX6_passWeek_1 : decode cX6_passWeek 1 = .ok (.istore 6, 2) := by decide +kernel
theorem dX6_passWeek_3 : decode cX6_passWeek 3 = .ok (.iload 6, 2) := by decide +kernel
theorem dX6_passWeek_5 : decode cX6_passWeek 5 = .ok (.aload_n 0, 1) := by decide +kernel
theorem dX6_passWeek_6 : decode cX6_passWeek 6 = .ok (.getfield 37, 3) := by decide +kernel
theorem dX6_passWeek_9 : decode cX6_passWeek 9 = .ok (.if_icmp .ge 125, 3) := by decide +kernel
theorem dX6_passWeek_12 : decode cX6_passWeek 12 = .ok (.iconst 0, 1) := by decide +kernel
theorem dX6_passWeek_13 : decode cX6_passWeek 13 = .ok (.istore 7, 2) := by decide +kernel
theorem dX6_passWeek_15 : decode cX6_passWeek 15 = .ok (.iload 7, 2) := by decide +kernel
theorem dX6_passWeek_17 : decode cX6_passWeek 17 = .ok (.aload_n 0, 1) := by decide +kernel
theorem dX6_passWeek_18 : decode cX6_passWeek 18 = .ok (.getfield 41, 3) := by decide +kernel
theorem dX6_passWeek_21 : decode cX6_passWeek 21 = .ok (.if_icmp .ge 107, 3) := by decide +kernel
theorem dX6_passWeek_24 : decode cX6_passWeek 24 = .ok (.iload 6, 2) := by decide +kernel
theorem dX6_passWeek_26 : decode cX6_passWeek 26 = .ok (.bipush 8, 2) := by decide +kernel
theorem dX6_passWeek_28 : decode cX6_passWeek 28 = .ok (.imul, 1) := by decide +kernel
theorem dX6_passWeek_29 : decode cX6_passWeek 29 = .ok (.iload 7, 2) := by decide +kernel
theorem dX6_passWeek_31 : decode cX6_passWeek 31 = .ok (.iadd, 1) := by decide +kernel
theorem dX6_passWeek_32 : decode cX6_passWeek 32 = .ok (.istore 8, 2) := by decide +kernel
theorem dX6_passWeek_34 : decode cX6_passWeek 34 = .ok (.lload_n 3, 1) := by decide +kernel
theorem dX6_passWeek_35 : decode cX6_passWeek 35 = .ok (.iload 7, 2) := by decide +kernel
theorem dX6_passWeek_37 : decode cX6_passWeek 37 = .ok (.invokestatic 91, 3) := by decide +kernel
theorem dX6_passWeek_40 : decode cX6_passWeek 40 = .ok (.iload 6, 2) := by decide +kernel
theorem dX6_passWeek_42 : decode cX6_passWeek 42 = .ok (.if_icmp .ne 27, 3) := by decide +kernel
theorem dX6_passWeek_45 : decode cX6_passWeek 45 = .ok (.aload_n 0, 1) := by decide +kernel
theorem dX6_passWeek_46 : decode cX6_passWeek 46 = .ok (.getfield 19, 3) := by decide +kernel
theorem dX6_passWeek_49 : decode cX6_passWeek 49 = .ok (.iload 8, 2) := by decide +kernel
theorem dX6_passWeek_51 : decode cX6_passWeek 51 = .ok (.bipush 9, 2) := by decide +kernel
theorem dX6_passWeek_53 : decode cX6_passWeek 53 = .ok (.aload_n 0, 1) := by decide +kernel
theorem dX6_passWeek_54 : decode cX6_passWeek 54 = .ok (.getfield 19, 3) := by decide +kernel
theorem dX6_passWeek_57 : decode cX6_passWeek 57 = .ok (.iload 8, 2) := by decide +kernel
theorem dX6_passWeek_59 : decode cX6_passWeek 59 = .ok (.iaload, 1) := by decide +kernel
theorem dX6_passWeek_60 : decode cX6_passWeek 60 = .ok (.iconst 1, 1) := by decide +kernel
theorem dX6_passWeek_61 : decode cX6_passWeek 61 = .ok (.iadd, 1) := by decide +kernel
theorem dX6_passWeek_62 : decode cX6_passWeek 62 = .ok (.invokestatic 22, 3) := by decide +kernel
theorem dX6_passWeek_65 : decode cX6_passWeek 65 = .ok (.iastore, 1) := by decide +kernel
theorem dX6_passWeek_66 : decode cX6_passWeek 66 = .ok (.goto 56, 3) := by decide +kernel
theorem dX6_passWeek_69 : decode cX6_passWeek 69 = .ok (.aload_n 0, 1) := by decide +kernel
theorem dX6_passWeek_70 : decode cX6_passWeek 70 = .ok (.getfield 19, 3) := by decide +kernel
theorem dX6_passWeek_73 : decode cX6_passWeek 73 = .ok (.iload 8, 2) := by decide +kernel
theorem dX6_passWeek_75 : decode cX6_passWeek 75 = .ok (.iaload, 1) := by decide +kernel
theorem dX6_passWeek_76 : decode cX6_passWeek 76 = .ok (.ifCond .le 46, 3) := by decide +kernel
theorem dX6_passWeek_79 : decode cX6_passWeek 79 = .ok (.aload 5, 2) := by decide +kernel
theorem dX6_passWeek_81 : decode cX6_passWeek 81 = .ok (.aload_n 1, 1) := by decide +kernel
theorem dX6_passWeek_82 : decode cX6_passWeek 82 = .ok (.iload 6, 2) := by decide +kernel
theorem dX6_passWeek_84 : decode cX6_passWeek 84 = .ok (.iload 7, 2) := by decide +kernel
theorem dX6_passWeek_86 : decode cX6_passWeek 86 = .ok (.aload_n 0, 1) := by decide +kernel
theorem dX6_passWeek_87 : decode cX6_passWeek 87 = .ok (.getfield 19, 3) := by decide +kernel
theorem dX6_passWeek_90 : decode cX6_passWeek 90 = .ok (.iload 8, 2) := by decide +kernel
theorem dX6_passWeek_92 : decode cX6_passWeek 92 = .ok (.iaload, 1) := by decide +kernel
theorem dX6_passWeek_93 : decode cX6_passWeek 93 = .ok (.iload_n 2, 1) := by decide +kernel
theorem dX6_passWeek_94 : decode cX6_passWeek 94 = .ok (.invokevirtual 95, 3) := by decide +kernel
theorem dX6_passWeek_97 : decode cX6_passWeek 97 = .ok (.aload_n 0, 1) := by decide +kernel
theorem dX6_passWeek_98 : decode cX6_passWeek 98 = .ok (.getfield 19, 3) := by decide +kernel
theorem dX6_passWeek_101 : decode cX6_passWeek 101 = .ok (.iload 8, 2) := by decide +kernel
theorem dX6_passWeek_103 : decode cX6_passWeek 103 = .ok (.iconst 0, 1) := by decide +kernel
theorem dX6_passWeek_104 : decode cX6_passWeek 104 = .ok (.aload_n 0, 1) := by decide +kernel
theorem dX6_passWeek_105 : decode cX6_passWeek 105 = .ok (.getfield 19, 3) := by decide +kernel
theorem dX6_passWeek_108 : decode cX6_passWeek 108 = .ok (.iload 8, 2) := by decide +kernel
theorem dX6_passWeek_110 : decode cX6_passWeek 110 = .ok (.iaload, 1) := by decide +kernel
theorem dX6_passWeek_111 : decode cX6_passWeek 111 = .ok (.aload 5, 2) := by decide +kernel
theorem dX6_passWeek_113 : decode cX6_passWeek 113 = .ok (.aload_n 1, 1) := by decide +kernel
theorem dX6_passWeek_114 : decode cX6_passWeek 114 = .ok (.invokevirtual 99, 3) := by decide +kernel
theorem dX6_passWeek_117 : decode cX6_passWeek 117 = .ok (.isub, 1) := by decide +kernel
theorem dX6_passWeek_118 : decode cX6_passWeek 118 = .ok (.invokestatic 102, 3) := by decide +kernel
theorem dX6_passWeek_121 : decode cX6_passWeek 121 = .ok (.iastore, 1) := by decide +kernel
theorem dX6_passWeek_122 : decode cX6_passWeek 122 = .ok (.iinc 7 1, 3) := by decide +kernel
theorem dX6_passWeek_125 : decode cX6_passWeek 125 = .ok (.goto (-110), 3) := by decide +kernel
theorem dX6_passWeek_128 : decode cX6_passWeek 128 = .ok (.iinc 6 1, 3) := by decide +kernel
theorem dX6_passWeek_131 : decode cX6_passWeek 131 = .ok (.goto (-128), 3) := by decide +kernel
theorem dX6_passWeek_134 : decode cX6_passWeek 134 = .ok (.return_, 1) := by decide +kernel
def bX6_passWeek_0 (l : Launch) (E : Ev) (d : Nat) (Q : Option Value → Hp → Prop) : Kt := k_push (.int 0) (k_istore 6 (Go l E YX6_passWeek (d + 1) 0 0 Q 0 0 3))
set_option maxRecDepth 100000 in
set_option maxHeartbeats 4000000 in
theorem gX6_passWeek_0 {l : Launch} {E : Ev} {d : Nat} {Q : Option Value → Hp → Prop} {ls : Lv} {st : List Value} {h : Hp} (hB : bX6_passWeek_0 l E d Q ls st h) : Go l E YX6_passWeek (d + 1) 0 0 Q 0 0 0 ls st h :=
  (sd_iconst (v := 0) (by decide) dX6_passWeek_0 (sd_istore (i := 6) (by decide) dX6_passWeek_1 (Sd.go)) : Sd l E YX6_passWeek (d + 1) 0 0 Q 0 0 0 (bX6_passWeek_0 l E d Q)) ls st h hB
def bX6_passWeek_3 (l : Launch) (E : Ev) (d : Nat) (Q : Option Value → Hp → Prop) : Kt := k_iload 6 (k_aload 0 (k_getI 6 7 1 (k_icmp_ge (k_vret Q) (k_push (.int 0) (k_istore 7 (Go l E YX6_passWeek (d + 1) 0 0 Q 0 0 15))))))
set_option maxRecDepth 100000 in
set_option maxHeartbeats 4000000 in
theorem gX6_passWeek_3 {l : Launch} {E : Ev} {d : Nat} {Q : Option Value → Hp → Prop} {ls : Lv} {st : List Value} {h : Hp} (hB : bX6_passWeek_3 l E d Q ls st h) : Go l E YX6_passWeek (d + 1) 0 0 Q 0 0 3 ls st h :=
  (sd_iload (n := 6) dX6_passWeek_3 (sd_aload_n (i := 0) rfl dX6_passWeek_5 (sd_getI clsX6 (f := 1) (by decide) (fun _ _ _ => rfl) mw_405 dX6_passWeek_6 (sd_icmp_ge (tgt := 134) (by decide) dX6_passWeek_9 (sd_vret rfl (by decide) (by decide) dX6_passWeek_134) (sd_iconst (v := 0) (by decide) dX6_passWeek_12 (sd_istore (i := 7) (by decide) dX6_passWeek_13 (Sd.go)))))) : Sd l E YX6_passWeek (d + 1) 0 0 Q 0 0 3 (bX6_passWeek_3 l E d Q)) ls st h hB
def bX6_passWeek_15 (l : Launch) (E : Ev) (d : Nat) (Q : Option Value → Hp → Prop) : Kt := k_iload 7 (k_aload 0 (k_getI 6 7 2 (k_icmp_ge (k_iinc 6 1 (Go l E YX6_passWeek (d + 1) 0 0 Q 0 0 3)) (k_iload 6 (k_push (.int 8) (k_imul (k_iload 7 (k_iadd (k_istore 8 (k_lload 3 (k_iload 7 (k_callS l E YX3_playerIn d 0 0 2 (k_iload 6 (k_icmp_ne (k_aload 0 (k_getR 6 7 5 (k_iload 8 (k_iaload (k_if_le (k_iinc 7 1 (Go l E YX6_passWeek (d + 1) 0 0 Q 0 0 15)) (k_aload 5 (k_aload 1 (k_iload 6 (k_iload 7 (k_aload 0 (k_getR 6 7 5 (k_iload 8 (k_iaload (k_iload 2 (k_callV l E 0 7 YX0_ask d 0 0 5 (k_aload 0 (k_getR 6 7 5 (k_iload 8 (k_push (.int 0) (k_aload 0 (k_getR 6 7 5 (k_iload 8 (k_iaload (k_aload 5 (k_aload 1 (k_callV l E 0 7 YX0_fading d 0 0 1 (k_isub (k_mmax (k_iastore (k_iinc 7 1 (Go l E YX6_passWeek (d + 1) 0 0 Q 0 0 15))))))))))))))))))))))))))))))) (k_aload 0 (k_getR 6 7 5 (k_iload 8 (k_push (.int 9) (k_aload 0 (k_getR 6 7 5 (k_iload 8 (k_iaload (k_push (.int 1) (k_iadd (k_mmin (k_iastore (k_iinc 7 1 (Go l E YX6_passWeek (d + 1) 0 0 Q 0 0 15))))))))))))))))))))))))))))
set_option maxRecDepth 100000 in
set_option maxHeartbeats 4000000 in
theorem gX6_passWeek_15 {l : Launch} {E : Ev} {d : Nat} {Q : Option Value → Hp → Prop} {ls : Lv} {st : List Value} {h : Hp} (hB : bX6_passWeek_15 l E d Q ls st h) : Go l E YX6_passWeek (d + 1) 0 0 Q 0 0 15 ls st h :=
  (sd_iload (n := 7) dX6_passWeek_15 (sd_aload_n (i := 0) rfl dX6_passWeek_17 (sd_getI clsX6 (f := 2) (by decide) (fun _ _ _ => rfl) mw_407 dX6_passWeek_18 (sd_icmp_ge (tgt := 128) (by decide) dX6_passWeek_21 (sd_iinc (i := 6) (v := 1) (by decide) (by decide) dX6_passWeek_128 (sd_goto (tgt := 3) (by decide) dX6_passWeek_131 (Sd.go))) (sd_iload (n := 6) dX6_passWeek_24 (sd_bipush (v := 8) (by decide) dX6_passWeek_26 (sd_imul dX6_passWeek_28 (sd_iload (n := 7) dX6_passWeek_29 (sd_iadd dX6_passWeek_31 (sd_istore (i := 8) (by decide) dX6_passWeek_32 (sd_lload_n (i := 3) rfl dX6_passWeek_34 (sd_iload (n := 7) dX6_passWeek_35 (sd_callS (Y' := YX3_playerIn) (mc' := 0) (ms' := 0) (n := 2) mw_1125 mw_903 mw_104 mw_904 (okmX3_playerIn) (by decide) (Nat.le_refl _) (by decide) (by decide) dX6_passWeek_37 (sd_iload (n := 6) dX6_passWeek_40 (sd_icmp_ne (tgt := 69) (by decide) dX6_passWeek_42 (sd_aload_n (i := 0) rfl dX6_passWeek_69 (sd_getR clsX6 (f := 5) (by decide) (fun _ _ _ => rfl) mw_413 dX6_passWeek_70 (sd_iload (n := 8) dX6_passWeek_73 (sd_iaload dX6_passWeek_75 (sd_if_le (tgt := 122) (by decide) dX6_passWeek_76 (sd_iinc (i := 7) (v := 1) (by decide) (by decide) dX6_passWeek_122 (sd_goto (tgt := 15) (by decide) dX6_passWeek_125 (Sd.go))) (sd_aload (n := 5) dX6_passWeek_79 (sd_aload_n (i := 1) rfl dX6_passWeek_81 (sd_iload (n := 6) dX6_passWeek_82 (sd_iload (n := 7) dX6_passWeek_84 (sd_aload_n (i := 0) rfl dX6_passWeek_86 (sd_getR clsX6 (f := 5) (by decide) (fun _ _ _ => rfl) mw_413 dX6_passWeek_87 (sd_iload (n := 8) dX6_passWeek_90 (sd_iaload dX6_passWeek_92 (sd_iload_n (i := 2) rfl dX6_passWeek_93 (sd_callV (Y' := YX0_ask) (mc' := 0) (ms' := 0) (n := 5) clsX0.1 mw_1126 mw_552 mw_553 mw_103 mw_554 rfl (okmX0_ask) (by decide) (Nat.le_refl _) (by decide) (by decide) dX6_passWeek_94 (sd_aload_n (i := 0) rfl dX6_passWeek_97 (sd_getR clsX6 (f := 5) (by decide) (fun _ _ _ => rfl) mw_413 dX6_passWeek_98 (sd_iload (n := 8) dX6_passWeek_101 (sd_iconst (v := 0) (by decide) dX6_passWeek_103 (sd_aload_n (i := 0) rfl dX6_passWeek_104 (sd_getR clsX6 (f := 5) (by decide) (fun _ _ _ => rfl) mw_413 dX6_passWeek_105 (sd_iload (n := 8) dX6_passWeek_108 (sd_iaload dX6_passWeek_110 (sd_aload (n := 5) dX6_passWeek_111 (sd_aload_n (i := 1) rfl dX6_passWeek_113 (sd_callV (Y' := YX0_fading) (mc' := 0) (ms' := 0) (n := 1) clsX0.1 mw_1127 mw_591 mw_592 mw_103 mw_593 rfl (okmX0_fading) (by decide) (Nat.le_refl _) (by decide) (by decide) dX6_passWeek_114 (sd_isub dX6_passWeek_117 (sd_mmax mw_1128 mw_574 mw_109 mw_575 (by omega) (by decide) (by decide) dX6_passWeek_118 (sd_iastore dX6_passWeek_121 (sd_iinc (i := 7) (v := 1) (by decide) (by decide) dX6_passWeek_122 (sd_goto (tgt := 15) (by decide) dX6_passWeek_125 (Sd.go)))))))))))))))))))))))))))))))) (sd_aload_n (i := 0) rfl dX6_passWeek_45 (sd_getR clsX6 (f := 5) (by decide) (fun _ _ _ => rfl) mw_413 dX6_passWeek_46 (sd_iload (n := 8) dX6_passWeek_49 (sd_bipush (v := 9) (by decide) dX6_passWeek_51 (sd_aload_n (i := 0) rfl dX6_passWeek_53 (sd_getR clsX6 (f := 5) (by decide) (fun _ _ _ => rfl) mw_413 dX6_passWeek_54 (sd_iload (n := 8) dX6_passWeek_57 (sd_iaload dX6_passWeek_59 (sd_iconst (v := 1) (by decide) dX6_passWeek_60 (sd_iadd dX6_passWeek_61 (sd_mmin mw_1108 mw_587 mw_109 mw_588 (by omega) (by decide) (by decide) dX6_passWeek_62 (sd_iastore dX6_passWeek_65 (sd_goto (tgt := 122) (by decide) dX6_passWeek_66 (sd_iinc (i := 7) (v := 1) (by decide) (by decide) dX6_passWeek_122 (sd_goto (tgt := 15) (by decide) dX6_passWeek_125 (Sd.go)))))))))))))))))))))))))))))) : Sd l E YX6_passWeek (d + 1) 0 0 Q 0 0 15 (bX6_passWeek_15 l E d Q)) ls st h hB
theorem eX6_passWeek {l : Launch} {E : Ev} {d : Nat} {Q : Option Value → Hp → Prop} {h : Hp} {a0 : Nat} {x1 : Nat} {x2 : Int32} {x3 : Int64} {x4 : Nat} (hk : Go l E YX6_passWeek d 0 0 Q 0 0 0 [some (.ref a0), some (.ref x1), some (.int x2), some (.long x3), none, some (.ref x4), none, none, none] [] h) : GoM l E YX6_passWeek d 0 0 [.ref a0, .ref x1, .int x2, .long x3, .ref x4] h Q := GoM.of (by decide +kernel) rfl (by simp [entA, YX6_passWeek]) hk
