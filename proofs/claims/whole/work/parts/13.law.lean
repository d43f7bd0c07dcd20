theorem dX2_init_0 : decode cX2_init 0 = .ok (.aload_n 0, 1) := by decide +kernel
theorem dX2_init_1 : decode cX2_init 1 = .ok (.invokespecial 3, 3) := by decide +kernel
theorem dX2_init_4 : decode cX2_init 4 = .ok (.aload_n 0, 1) := by decide +kernel
theorem dX2_init_5 : decode cX2_init 5 = .ok (.aload_n 1, 1) := by decide +kernel
theorem dX2_init_6 : decode cX2_init 6 = .ok (.putfield 9, 3) := by decide +kernel
theorem dX2_init_9 : decode cX2_init 9 = .ok (.aload_n 0, 1) := by decide +kernel
theorem dX2_init_10 : decode cX2_init 10 = .ok (.aload_n 2, 1) := by decide +kernel
theorem dX2_init_11 : decode cX2_init 11 = .ok (.putfield 15, 3) := by decide +kernel
theorem dX2_init_14 : decode cX2_init 14 = .ok (.aload_n 0, 1) := by decide +kernel
theorem dX2_init_15 : decode cX2_init 15 = .ok (.aload_n 3, 1) := by decide +kernel
theorem dX2_init_16 : decode cX2_init 16 = .ok (.putfield 18, 3) := by decide +kernel
theorem dX2_init_19 : decode cX2_init 19 = .ok (.return_, 1) := by decide +kernel
def bX2_init_0 (l : Launch) (E : Ev) (d : Nat) (Q : Option Value → Hp → Prop) : Kt := k_aload 0 (k_objInit (k_aload 0 (k_aload 1 (k_putR 2 3 0 (k_aload 0 (k_aload 2 (k_putR 2 3 1 (k_aload 0 (k_aload 3 (k_putR 2 3 2 (k_vret Q)))))))))))
set_option maxRecDepth 100000 in
set_option maxHeartbeats 4000000 in
theorem gX2_init_0 {l : Launch} {E : Ev} {d : Nat} {Q : Option Value → Hp → Prop} {ls : Lv} {st : List Value} {h : Hp} (hB : bX2_init_0 l E d Q ls st h) : Go l E YX2_init (d + 1) 0 0 Q 0 0 0 ls st h :=
  (sd_aload_n (i := 0) rfl dX2_init_0 (sd_objInit mw_748 mw_125 mw_126 (by omega) dX2_init_1 (sd_aload_n (i := 0) rfl dX2_init_4 (sd_aload_n (i := 1) rfl dX2_init_5 (sd_putR clsX2 (f := 0) (by decide) (fun _ _ _ => rfl) rfl (Or.inr ⟨rfl, rfl, rfl⟩) mw_749 dX2_init_6 (sd_aload_n (i := 0) rfl dX2_init_9 (sd_aload_n (i := 2) rfl dX2_init_10 (sd_putR clsX2 (f := 1) (by decide) (fun _ _ _ => rfl) rfl (Or.inr ⟨rfl, rfl, rfl⟩) mw_750 dX2_init_11 (sd_aload_n (i := 0) rfl dX2_init_14 (sd_aload_n (i := 3) rfl dX2_init_15 (sd_putR clsX2 (f := 2) (by decide) (fun _ _ _ => rfl) rfl (Or.inr ⟨rfl, rfl, rfl⟩) mw_751 dX2_init_16 (sd_vret rfl (by decide) (by decide) dX2_init_19))))))))))) : Sd l E YX2_init (d + 1) 0 0 Q 0 0 0 (bX2_init_0 l E d Q)) ls st h hB
theorem eX2_init {l : Launch} {E : Ev} {d : Nat} {Q : Option Value → Hp → Prop} {h : Hp} {a0 : Nat} {x1 : Nat} {x2 : Nat} {x3 : Nat} (hk : Go l E YX2_init d 0 0 Q 0 0 0 [some (.ref a0), some (.ref x1), some (.ref x2), some (.ref x3)] [] h) : GoM l E YX2_init d 0 0 [.ref a0, .ref x1, .ref x2, .ref x3] h Q := GoM.of (by decide +kernel) rfl (by simp [entA, YX2_init]) hk
theorem dX2_tells_0 : decode cX2_tells 0 = .ok (.aload_n 0, 1) := by decide +kernel
theorem dX2_tells_1 : decode cX2_tells 1 = .ok (.getfield 9, 3) := by decide +kernel
theorem dX2_tells_4 : decode cX2_tells 4 = .ok (.arraylength, 1) := by decide +kernel
theorem dX2_tells_5 : decode cX2_tells 5 = .ok (.iconst 1, 1) := by decide +kernel
theorem dX2_tells_6 : decode cX2_tells 6 = .ok (.isub, 1) := by decide +kernel
theorem dX2_tells_7 : decode cX2_tells 7 = .ok (.istore 4, 2) := by decide +kernel
theorem dX2_tells_9 : decode cX2_tells 9 = .ok (.iload 4, 2) := by decide +kernel
theorem dX2_tells_11 : decode cX2_tells 11 = .ok (.ifCond .lt 142, 3) := by decide +kernel
theorem dX2_tells_14 : decode cX2_tells 14 = .ok (.aload_n 0, 1) := by decide +kernel
theorem dX2_tells_15 : decode cX2_tells 15 = .ok (.getfield 9, 3) := by decide +kernel
theorem dX2_tells_18 : decode cX2_tells 18 = .ok (.iload 4, 2) := by decide +kernel
theorem dX2_tells_20 : decode cX2_tells 20 = .ok (.iaload, 1) := by decide +kernel
theorem dX2_tells_21 : decode cX2_tells 21 = .ok (.iload_n 1, 1) := by decide +kernel
theorem dX2_tells_22 : decode cX2_tells 22 = .ok (.if_icmp .ne 125, 3) := by decide +kernel
theorem dX2_tells_25 : decode cX2_tells 25 = .ok (.iload 4, 2) := by decide +kernel
theorem dX2_tells_27 : decode cX2_tells 27 = .ok (.iconst 2, 1) := by decide +kernel
theorem dX2_tells_28 : decode cX2_tells 28 = .ok (.imul, 1) := by decide +kernel
theorem dX2_tells_29 : decode cX2_tells 29 = .ok (.iconst 2, 1) := by decide +kernel
theorem dX2_tells_30 : decode cX2_tells 30 = .ok (.iadd, 1) := by decide +kernel
theorem dX2_tells_31 : decode cX2_tells 31 = .ok (.aload_n 0, 1) := by decide +kernel
theorem dX2_tells_32 : decode cX2_tells 32 = .ok (.getfield 15, 3) := by decide +kernel
theorem dX2_tells_35 : decode cX2_tells 35 = .ok (.arraylength, 1) := by decide +kernel
theorem dX2_tells_36 : decode cX2_tells 36 = .ok (.if_icmp .ge 111, 3) := by decide +kernel
theorem dX2_tells_39 : decode cX2_tells 39 = .ok (.aload_n 0, 1) := by decide +kernel
theorem dX2_tells_40 : decode cX2_tells 40 = .ok (.getfield 15, 3) := by decide +kernel
theorem dX2_tells_43 : decode cX2_tells 43 = .ok (.iload 4, 2) := by decide +kernel
theorem dX2_tells_45 : decode cX2_tells 45 = .ok (.iconst 2, 1) := by decide +kernel
theorem dX2_tells_46 : decode cX2_tells 46 = .ok (.imul, 1) := by decide +kernel
theorem dX2_tells_47 : decode cX2_tells 47 = .ok (.iaload, 1) := by decide +kernel
theorem dX2_tells_48 : decode cX2_tells 48 = .ok (.istore 5, 2) := by decide +kernel
theorem dX2_tells_50 : decode cX2_tells 50 = .ok (.aload_n 0, 1) := by decide +kernel
theorem dX2_tells_51 : decode cX2_tells 51 = .ok (.getfield 15, 3) := by decide +kernel
theorem dX2_tells_54 : decode cX2_tells 54 = .ok (.iload 4, 2) := by decide +kernel
theorem dX2_tells_56 : decode cX2_tells 56 = .ok (.iconst 2, 1) := by decide +kernel
theorem dX2_tells_57 : decode cX2_tells 57 = .ok (.imul, 1) := by decide +kernel
theorem dX2_tells_58 : decode cX2_tells 58 = .ok (.iconst 1, 1) := by decide +kernel
theorem dX2_tells_59 : decode cX2_tells 59 = .ok (.iadd, 1) := by decide +kernel
theorem dX2_tells_60 : decode cX2_tells 60 = .ok (.iaload, 1) := by decide +kernel
theorem dX2_tells_61 : decode cX2_tells 61 = .ok (.istore 6, 2) := by decide +kernel
theorem dX2_tells_63 : decode cX2_tells 63 = .ok (.aload_n 0, 1) := by decide +kernel
theorem dX2_tells_64 : decode cX2_tells 64 = .ok (.getfield 15, 3) := by decide +kernel
theorem dX2_tells_67 : decode cX2_tells 67 = .ok (.iload 4, 2) := by decide +kernel
theorem dX2_tells_69 : decode cX2_tells 69 = .ok (.iconst 2, 1) := by decide +kernel
theorem dX2_tells_70 : decode cX2_tells 70 = .ok (.imul, 1) := by decide +kernel
theorem dX2_tells_71 : decode cX2_tells 71 = .ok (.iconst 2, 1) := by decide +kernel
theorem dX2_tells_72 : decode cX2_tells 72 = .ok (.iadd, 1) := by decide +kernel
theorem dX2_tells_73 : decode cX2_tells 73 = .ok (.iaload, 1) := by decide +kernel
theorem dX2_tells_74 : decode cX2_tells 74 = .ok (.istore 7, 2) := by decide +kernel
theorem dX2_tells_76 : decode cX2_tells 76 = .ok (.iload 6, 2) := by decide +kernel
theorem dX2_tells_78 : decode cX2_tells 78 = .ok (.iload 7, 2) := by decide +kernel
theorem dX2_tells_80 : decode cX2_tells 80 = .ok (.if_icmp .eq 17, 3) := by decide +kernel
theorem dX2_tells_83 : decode cX2_tells 83 = .ok (.aload_n 0, 1) := by decide +kernel
theorem dX2_tells_84 : decode cX2_tells 84 = .ok (.iload 6, 2) := by decide +kernel
theorem dX2_tells_86 : decode cX2_tells 86 = .ok (.iload 7, 2) := by decide +kernel
theorem dX2_tells_88 : decode cX2_tells 88 = .ok (.aload_n 2, 1) := by decide +kernel
theorem dX2_tells_89 : decode cX2_tells 89 = .ok (.aload_n 3, 1) := by decide +kernel
theorem dX2_tells_90 : decode cX2_tells 90 = .ok (.invokevirtual 21, 3) := by decide +kernel
theorem dX2_tells_93 : decode cX2_tells 93 = .ok (.iconst 1, 1) := by decide +kernel
theorem dX2_tells_94 : decode cX2_tells 94 = .ok (.if_icmp .ne 7, 3) := by decide +kernel
theorem dX2_tells_97 : decode cX2_tells 97 = .ok (.iconst 1, 1) := by decide +kernel
theorem dX2_tells_98 : decode cX2_tells 98 = .ok (.goto 4, 3) := by decide +kernel
theorem dX2_tells_101 : decode cX2_tells 101 = .ok (.iconst 0, 1) := by decide +kernel
theorem dX2_tells_102 : decode cX2_tells 102 = .ok (.istore 8, 2) := by decide +kernel
theorem dX2_tells_104 : decode cX2_tells 104 = .ok (.iload 8, 2) := by decide +kernel
theorem dX2_tells_106 : decode cX2_tells 106 = .ok (.ifCond .ne 8, 3) := by decide +kernel
theorem dX2_tells_109 : decode cX2_tells 109 = .ok (.ldc 25, 2) := by decide +kernel
theorem dX2_tells_111 : decode cX2_tells 111 = .ok (.goto 24, 3) := by decide +kernel
theorem dX2_tells_114 : decode cX2_tells 114 = .ok (.iload 5, 2) := by decide +kernel
theorem dX2_tells_116 : decode cX2_tells 116 = .ok (.iload 6, 2) := by decide +kernel
theorem dX2_tells_118 : decode cX2_tells 118 = .ok (.if_icmp .ne 7, 3) := by decide +kernel
theorem dX2_tells_121 : decode cX2_tells 121 = .ok (.iconst 1, 1) := by decide +kernel
theorem dX2_tells_122 : decode cX2_tells 122 = .ok (.goto 13, 3) := by decide +kernel
theorem dX2_tells_125 : decode cX2_tells 125 = .ok (.aload_n 0, 1) := by decide +kernel
theorem dX2_tells_126 : decode cX2_tells 126 = .ok (.iload 5, 2) := by decide +kernel
theorem dX2_tells_128 : decode cX2_tells 128 = .ok (.iload 6, 2) := by decide +kernel
theorem dX2_tells_130 : decode cX2_tells 130 = .ok (.aload_n 2, 1) := by decide +kernel
theorem dX2_tells_131 : decode cX2_tells 131 = .ok (.aload_n 3, 1) := by decide +kernel
theorem dX2_tells_132 : decode cX2_tells 132 = .ok (.invokevirtual 21, 3) := by decide +kernel
theorem dX2_tells_135 : decode cX2_tells 135 = .ok (.istore 9, 2) := by decide +kernel
theorem dX2_tells_137 : decode cX2_tells 137 = .ok (.iload 9, 2) := by decide +kernel
theorem dX2_tells_139 : decode cX2_tells 139 = .ok (.ldc 25, 2) := by decide +kernel
theorem dX2_tells_141 : decode cX2_tells 141 = .ok (.if_icmp .eq 6, 3) := by decide +kernel
theorem dX2_tells_144 : decode cX2_tells 144 = .ok (.iload 9, 2) := by decide +kernel
theorem dX2_tells_146 : decode cX2_tells 146 = .ok (.ireturn, 1) := by decide +kernel
theorem dX2_tells_147 : decode cX2_tells 147 = .ok (.iinc 4 (-1), 3) := by decide +kernel
theorem dX2_tells_150 : decode cX2_tells 150 = .ok (.goto (-141), 3) := by decide +kernel
theorem dX2_tells_153 : decode cX2_tells 153 = .ok (.ldc 25, 2) := by decide +kernel
theorem dX2_tells_155 : decode cX2_tells 155 = .ok (.ireturn, 1) := by decide +kernel
def bX2_tells_0 (l : Launch) (E : Ev) (d : Nat) (Q : Option Value → Hp → Prop) : Kt := k_aload 0 (k_getR 2 3 0 (k_alen (k_push (.int 1) (k_isub (k_istore 4 (Go l E YX2_tells (d + 1) 0 0 Q 0 0 9))))))
set_option maxRecDepth 100000 in
set_option maxHeartbeats 4000000 in
theorem gX2_tells_0 {l : Launch} {E : Ev} {d : Nat} {Q : Option Value → Hp → Prop} {ls : Lv} {st : List Value} {h : Hp} (hB : bX2_tells_0 l E d Q ls st h) : Go l E YX2_tells (d + 1) 0 0 Q 0 0 0 ls st h :=
  (sd_aload_n (i := 0) rfl dX2_tells_0 (sd_getR clsX2 (f := 0) (by decide) (fun _ _ _ => rfl) mw_749 dX2_tells_1 (sd_alen dX2_tells_4 (sd_iconst (v := 1) (by decide) dX2_tells_5 (sd_isub dX2_tells_6 (sd_istore (i := 4) (by decide) dX2_tells_7 (Sd.go)))))) : Sd l E YX2_tells (d + 1) 0 0 Q 0 0 0 (bX2_tells_0 l E d Q)) ls st h hB
def bX2_tells_9 (l : Launch) (E : Ev) (d : Nat) (Q : Option Value → Hp → Prop) : Kt := k_iload 4 (k_if_lt (k_push (.int (-2147483648)) (k_iret .int Q)) (k_aload 0 (k_getR 2 3 0 (k_iload 4 (k_iaload (k_iload 1 (k_icmp_ne (k_iinc 4 (-1) (Go l E YX2_tells (d + 1) 0 0 Q 0 0 9)) (k_iload 4 (k_push (.int 2) (k_imul (k_push (.int 2) (k_iadd (k_aload 0 (k_getR 2 3 1 (k_alen (k_icmp_ge (k_iinc 4 (-1) (Go l E YX2_tells (d + 1) 0 0 Q 0 0 9)) (k_aload 0 (k_getR 2 3 1 (k_iload 4 (k_push (.int 2) (k_imul (k_iaload (k_istore 5 (k_aload 0 (k_getR 2 3 1 (k_iload 4 (k_push (.int 2) (k_imul (k_push (.int 1) (k_iadd (k_iaload (k_istore 6 (k_aload 0 (k_getR 2 3 1 (k_iload 4 (k_push (.int 2) (k_imul (k_push (.int 2) (k_iadd (k_iaload (k_istore 7 (k_iload 6 (k_iload 7 (k_icmp_eq (k_push (.int 1) (Go l E YX2_tells (d + 1) 0 0 Q 0 0 102)) (k_aload 0 (k_iload 6 (k_iload 7 (k_aload 2 (k_aload 3 (k_callV l E 2 3 YX2_run d 0 0 4 (k_push (.int 1) (k_icmp_ne (k_push (.int 0) (Go l E YX2_tells (d + 1) 0 0 Q 0 0 102)) (k_push (.int 1) (Go l E YX2_tells (d + 1) 0 0 Q 0 0 102))))))))))))))))))))))))))))))))))))))))))))))))))))))
set_option maxRecDepth 100000 in
set_option maxHeartbeats 4000000 in
theorem gX2_tells_9 {l : Launch} {E : Ev} {d : Nat} {Q : Option Value → Hp → Prop} {ls : Lv} {st : List Value} {h : Hp} (hB : bX2_tells_9 l E d Q ls st h) : Go l E YX2_tells (d + 1) 0 0 Q 0 0 9 ls st h :=
  (sd_iload (n := 4) dX2_tells_9 (sd_if_lt (tgt := 153) (by decide) dX2_tells_11 (sd_ldc (v := (-2147483648)) mw_572 dX2_tells_153 (sd_iret (ty := .int) rfl (by decide) (by decide) dX2_tells_155)) (sd_aload_n (i := 0) rfl dX2_tells_14 (sd_getR clsX2 (f := 0) (by decide) (fun _ _ _ => rfl) mw_749 dX2_tells_15 (sd_iload (n := 4) dX2_tells_18 (sd_iaload dX2_tells_20 (sd_iload_n (i := 1) rfl dX2_tells_21 (sd_icmp_ne (tgt := 147) (by decide) dX2_tells_22 (sd_iinc (i := 4) (v := (-1)) (by decide) (by decide) dX2_tells_147 (sd_goto (tgt := 9) (by decide) dX2_tells_150 (Sd.go))) (sd_iload (n := 4) dX2_tells_25 (sd_iconst (v := 2) (by decide) dX2_tells_27 (sd_imul dX2_tells_28 (sd_iconst (v := 2) (by decide) dX2_tells_29 (sd_iadd dX2_tells_30 (sd_aload_n (i := 0) rfl dX2_tells_31 (sd_getR clsX2 (f := 1) (by decide) (fun _ _ _ => rfl) mw_750 dX2_tells_32 (sd_alen dX2_tells_35 (sd_icmp_ge (tgt := 147) (by decide) dX2_tells_36 (sd_iinc (i := 4) (v := (-1)) (by decide) (by decide) dX2_tells_147 (sd_goto (tgt := 9) (by decide) dX2_tells_150 (Sd.go))) (sd_aload_n (i := 0) rfl dX2_tells_39 (sd_getR clsX2 (f := 1) (by decide) (fun _ _ _ => rfl) mw_750 dX2_tells_40 (sd_iload (n := 4) dX2_tells_43 (sd_iconst (v := 2) (by decide) dX2_tells_45 (sd_imul dX2_tells_46 (sd_iaload dX2_tells_47 (sd_istore (i := 5) (by decide) dX2_tells_48 (sd_aload_n (i := 0) rfl dX2_tells_50 (sd_getR clsX2 (f := 1) (by decide) (fun _ _ _ => rfl) mw_750 dX2_tells_51 (sd_iload (n := 4) dX2_tells_54 (sd_iconst (v := 2) (by decide) dX2_tells_56 (sd_imul dX2_tells_57 (sd_iconst (v := 1) (by decide) dX2_tells_58 (sd_iadd dX2_tells_59 (sd_iaload dX2_tells_60 (sd_istore (i := 6) (by decide) dX2_tells_61 (sd_aload_n (i := 0) rfl dX2_tells_63 (sd_getR clsX2 (f := 1) (by decide) (fun _ _ _ => rfl) mw_750 dX2_tells_64 (sd_iload (n := 4) dX2_tells_67 (sd_iconst (v := 2) (by decide) dX2_tells_69 (sd_imul dX2_tells_70 (sd_iconst (v := 2) (by decide) dX2_tells_71 (sd_iadd dX2_tells_72 (sd_iaload dX2_tells_73 (sd_istore (i := 7) (by decide) dX2_tells_74 (sd_iload (n := 6) dX2_tells_76 (sd_iload (n := 7) dX2_tells_78 (sd_icmp_eq (tgt := 97) (by decide) dX2_tells_80 (sd_iconst (v := 1) (by decide) dX2_tells_97 (sd_goto (tgt := 102) (by decide) dX2_tells_98 (Sd.go))) (sd_aload_n (i := 0) rfl dX2_tells_83 (sd_iload (n := 6) dX2_tells_84 (sd_iload (n := 7) dX2_tells_86 (sd_aload_n (i := 2) rfl dX2_tells_88 (sd_aload_n (i := 3) rfl dX2_tells_89 (sd_callV (Y' := YX2_run) (mc' := 0) (ms' := 0) (n := 4) clsX2.1 mw_567 mw_569 mw_2 mw_110 mw_571 rfl (okmX2_run) (by decide) (Nat.le_refl _) (by decide) (by decide) dX2_tells_90 (sd_iconst (v := 1) (by decide) dX2_tells_93 (sd_icmp_ne (tgt := 101) (by decide) dX2_tells_94 (sd_iconst (v := 0) (by decide) dX2_tells_101 (Sd.go)) (sd_iconst (v := 1) (by decide) dX2_tells_97 (sd_goto (tgt := 102) (by decide) dX2_tells_98 (Sd.go))))))))))))))))))))))))))))))))))))))))))))))))))))))) : Sd l E YX2_tells (d + 1) 0 0 Q 0 0 9 (bX2_tells_9 l E d Q)) ls st h hB
def bX2_tells_102 (l : Launch) (E : Ev) (d : Nat) (Q : Option Value → Hp → Prop) : Kt := k_istore 8 (k_iload 8 (k_if_ne (k_iload 5 (k_iload 6 (k_icmp_ne (k_aload 0 (k_iload 5 (k_iload 6 (k_aload 2 (k_aload 3 (k_callV l E 2 3 YX2_run d 0 0 4 (Go l E YX2_tells (d + 1) 0 0 Q 0 0 135))))))) (k_push (.int 1) (Go l E YX2_tells (d + 1) 0 0 Q 0 0 135))))) (k_push (.int (-2147483648)) (Go l E YX2_tells (d + 1) 0 0 Q 0 0 135))))
set_option maxRecDepth 100000 in
set_option maxHeartbeats 4000000 in
theorem gX2_tells_102 {l : Launch} {E : Ev} {d : Nat} {Q : Option Value → Hp → Prop} {ls : Lv} {st : List Value} {h : Hp} (hB : bX2_tells_102 l E d Q ls st h) : Go l E YX2_tells (d + 1) 0 0 Q 0 0 102 ls st h :=
  (sd_istore (i := 8) (by decide) dX2_tells_102 (sd_iload (n := 8) dX2_tells_104 (sd_if_ne (tgt := 114) (by decide) dX2_tells_106 (sd_iload (n := 5) dX2_tells_114 (sd_iload (n := 6) dX2_tells_116 (sd_icmp_ne (tgt := 125) (by decide) dX2_tells_118 (sd_aload_n (i := 0) rfl dX2_tells_125 (sd_iload (n := 5) dX2_tells_126 (sd_iload (n := 6) dX2_tells_128 (sd_aload_n (i := 2) rfl dX2_tells_130 (sd_aload_n (i := 3) rfl dX2_tells_131 (sd_callV (Y' := YX2_run) (mc' := 0) (ms' := 0) (n := 4) clsX2.1 mw_567 mw_569 mw_2 mw_110 mw_571 rfl (okmX2_run) (by decide) (Nat.le_refl _) (by decide) (by decide) dX2_tells_132 (Sd.go))))))) (sd_iconst (v := 1) (by decide) dX2_tells_121 (sd_goto (tgt := 135) (by decide) dX2_tells_122 (Sd.go)))))) (sd_ldc (v := (-2147483648)) mw_572 dX2_tells_109 (sd_goto (tgt := 135) (by decide) dX2_tells_111 (Sd.go))))) : Sd l E YX2_tells (d + 1) 0 0 Q 0 0 102 (bX2_tells_102 l E d Q)) ls st h hB
def bX2_tells_135 (l : Launch) (E : Ev) (d : Nat) (Q : Option Value → Hp → Prop) : Kt := k_istore 9 (k_iload 9 (k_push (.int (-2147483648)) (k_icmp_eq (k_iinc 4 (-1) (Go l E YX2_tells (d + 1) 0 0 Q 0 0 9)) (k_iload 9 (k_iret .int Q)))))
set_option maxRecDepth 100000 in
set_option maxHeartbeats 4000000 in
theorem gX2_tells_135 {l : Launch} {E : Ev} {d : Nat} {Q : Option Value → Hp → Prop} {ls : Lv} {st : List Value} {h : Hp} (hB : bX2_tells_135 l E d Q ls st h) : Go l E YX2_tells (d + 1) 0 0 Q 0 0 135 ls st h :=
  (sd_istore (i := 9) (by decide) dX2_tells_135 (sd_iload (n := 9) dX2_tells_137 (sd_ldc (v := (-2147483648)) mw_572 dX2_tells_139 (sd_icmp_eq (tgt := 147) (by decide) dX2_tells_141 (sd_iinc (i := 4) (v := (-1)) (by decide) (by decide) dX2_tells_147 (sd_goto (tgt := 9) (by decide) dX2_tells_150 (Sd.go))) (sd_iload (n := 9) dX2_tells_144 (sd_iret (ty := .int) rfl (by decide) (by decide) dX2_tells_146))))) : Sd l E YX2_tells (d + 1) 0 0 Q 0 0 135 (bX2_tells_135 l E d Q)) ls st h hB
theorem eX2_tells {l : Launch} {E : Ev} {d : Nat} {Q : Option Value → Hp → Prop} {h : Hp} {a0 : Nat} {x1 : Int32} {x2 : Nat} {x3 : Nat} (hk : Go l E YX2_tells d 0 0 Q 0 0 0 [some (.ref a0), some (.int x1), some (.ref x2), some (.ref x3), none, none, none, none, none, none] [] h) : GoM l E YX2_tells d 0 0 [.ref a0, .int x1, .ref x2, .ref x3] h Q := GoM.of (by decide +kernel) rfl (by simp [entA, YX2_tells]) hk
theorem dX2_run_0 : decode cX2_run 0 = .ok (.iconst 0, 1) := by decide +kernel
theorem dX2_run_1 : decode cX2_run 1 = .ok (.istore 5, 2) := by decide +kernel
theorem dX2_run_3 : decode cX2_run 3 = .ok (.iload_n 1, 1) := by decide +kernel
theorem dX2_run_4 : decode cX2_run 4 = .ok (.istore 6, 2) := by decide +kernel
theorem dX2_run_6 : decode cX2_run 6 = .ok (.iload 6, 2) := by decide +kernel
theorem dX2_run_8 : decode cX2_run 8 = .ok (.iload_n 2, 1) := by decide +kernel
theorem dX2_run_9 : decode cX2_run 9 = .ok (.if_icmp .ge 272, 3) := by decide +kernel
theorem dX2_run_12 : decode cX2_run 12 = .ok (.iload 6, 2) := by decide +kernel
theorem dX2_run_14 : decode cX2_run 14 = .ok (.aload_n 0, 1) := by decide +kernel
theorem dX2_run_15 : decode cX2_run 15 = .ok (.getfield 18, 3) := by decide +kernel
theorem dX2_run_18 : decode cX2_run 18 = .ok (.arraylength, 1) := by decide +kernel
theorem dX2_run_19 : decode cX2_run 19 = .ok (.if_icmp .ge 262, 3) := by decide +kernel
theorem dX2_run_22 : decode cX2_run 22 = .ok (.aload_n 0, 1) := by decide +kernel
theorem dX2_run_23 : decode cX2_run 23 = .ok (.getfield 18, 3) := by decide +kernel
theorem dX2_run_26 : decode cX2_run 26 = .ok (.iload 6, 2) := by decide +kernel
theorem dX2_run_28 : decode cX2_run 28 = .ok (.iaload, 1) := by decide +kernel
theorem dX2_run_29 : decode cX2_run 29 = .ok (.sipush 255, 3) := by decide +kernel
theorem dX2_run_32 : decode cX2_run 32 = .ok (.iand, 1) := by decide +kernel
theorem dX2_run_33 : decode cX2_run 33 = .ok (.istore 7, 2) := by decide +kernel
theorem dX2_run_35 : decode cX2_run 35 = .ok (.aload_n 0, 1) := by decide +kernel
theorem dX2_run_36 : decode cX2_run 36 = .ok (.getfield 18, 3) := by decide +kernel
theorem dX2_run_39 : decode cX2_run 39 = .ok (.iload 6, 2) := by decide +kernel
theorem dX2_run_41 : decode cX2_run 41 = .ok (.iaload, 1) := by decide +kernel
theorem dX2_run_42 : decode cX2_run 42 = .ok (.bipush 8, 2) := by decide +kernel
theorem dX2_run_44 : decode cX2_run 44 = .ok (.ishr, 1) := by decide +kernel
theorem dX2_run_45 : decode cX2_run 45 = .ok (.istore 8, 2) := by decide +kernel
theorem dX2_run_47 : decode cX2_run 47 = .ok (.iload 5, 2) := by decide +kernel
theorem dX2_run_49 : decode cX2_run 49 = .ok (.aload 4, 2) := by decide +kernel
theorem dX2_run_51 : decode cX2_run 51 = .ok (.arraylength, 1) := by decide +kernel
theorem dX2_run_52 : decode cX2_run 52 = .ok (.if_icmp .ge 8, 3) := by decide +kernel
theorem dX2_run_55 : decode cX2_run 55 = .ok (.iload 8, 2) := by decide +kernel
theorem dX2_run_57 : decode cX2_run 57 = .ok (.ifCond .ge 6, 3) := by decide +kernel
theorem dX2_run_60 : decode cX2_run 60 = .ok (.ldc 25, 2) := by decide +kernel
theorem dX2_run_62 : decode cX2_run 62 = .ok (.ireturn, 1) := by decide +kernel
theorem dX2_run_63 : decode cX2_run 63 = .ok (.iload 7, 2) := by decide +kernel
theorem dX2_run_65 : decode cX2_run 65 = .ok (.ifCond .eq 9, 3) := by decide +kernel
theorem dX2_run_68 : decode cX2_run 68 = .ok (.iload 7, 2) := by decide +kernel
theorem dX2_run_70 : decode cX2_run 70 = .ok (.iconst 1, 1) := by decide +kernel
theorem dX2_run_71 : decode cX2_run 71 = .ok (.if_icmp .ne 35, 3) := by decide +kernel
theorem dX2_run_74 : decode cX2_run 74 = .ok (.aload 4, 2) := by decide +kernel
theorem dX2_run_76 : decode cX2_run 76 = .ok (.iload 5, 2) := by decide +kernel
theorem dX2_run_78 : decode cX2_run 78 = .ok (.iload 7, 2) := by decide +kernel
theorem dX2_run_80 : decode cX2_run 80 = .ok (.ifCond .eq 10, 3) := by decide +kernel
theorem dX2_run_83 : decode cX2_run 83 = .ok (.iload 8, 2) := by decide +kernel
theorem dX2_run_85 : decode cX2_run 85 = .ok (.aload_n 3, 1) := by decide +kernel
theorem dX2_run_86 : decode cX2_run 86 = .ok (.arraylength, 1) := by decide +kernel
theorem dX2_run_87 : decode cX2_run 87 = .ok (.if_icmp .lt 8, 3) := by decide +kernel
theorem dX2_run_90 : decode cX2_run 90 = .ok (.iload 8, 2) := by decide +kernel
theorem dX2_run_92 : decode cX2_run 92 = .ok (.goto 7, 3) := by decide +kernel
theorem dX2_run_95 : decode cX2_run 95 = .ok (.aload_n 3, 1) := by decide +kernel
theorem dX2_run_96 : decode cX2_run 96 = .ok (.iload 8, 2) := by decide +kernel
theorem dX2_run_98 : decode cX2_run 98 = .ok (.iaload, 1) := by decide +kernel
theorem dX2_run_99 : decode cX2_run 99 = .ok (.iastore, 1) := by decide +kernel
theorem dX2_run_100 : decode cX2_run 100 = .ok (.iinc 5 1, 3) := by decide +kernel
theorem dX2_run_103 : decode cX2_run 103 = .ok (.goto 172, 3) := by decide +kernel
theorem dX2_run_106 : decode cX2_run 106 = .ok (.iload 5, 2) := by decide +kernel
theorem dX2_run_108 : decode cX2_run 108 = .ok (.iload 7, 2) := by decide +kernel
theorem dX2_run_110 : decode cX2_run 110 = .ok (.iconst 5, 1) := by decide +kernel
theorem dX2_run_111 : decode cX2_run 111 = .ok (.if_icmp .lt 7, 3) := by decide +kernel
theorem dX2_run_114 : decode cX2_run 114 = .ok (.iconst 2, 1) := by decide +kernel
theorem dX2_run_115 : decode cX2_run 115 = .ok (.goto 4, 3) := by decide +kernel
theorem dX2_run_118 : decode cX2_run 118 = .ok (.iconst 1, 1) := by decide +kernel
theorem dX2_run_119 : decode cX2_run 119 = .ok (.if_icmp .ge 6, 3) := by decide +kernel
theorem dX2_run_122 : decode cX2_run 122 = .ok (.ldc 25, 2) := by decide +kernel
theorem dX2_run_124 : decode cX2_run 124 = .ok (.ireturn, 1) := by decide +kernel
theorem dX2_run_125 : decode cX2_run 125 = .ok (.iload 7, 2) := by decide +kernel
theorem dX2_run_127 : decode cX2_run 127 = .ok (.iconst 2, 1) := by decide +kernel
theorem dX2_run_128 : decode cX2_run 128 = .ok (.if_icmp .ne 22, 3) := by decide +kernel
theorem dX2_run_131 : decode cX2_run 131 = .ok (.aload 4, 2) := by decide +kernel
theorem dX2_run_133 : decode cX2_run 133 = .ok (.iload 5, 2) := by decide +kernel
theorem dX2_run_135 : decode cX2_run 135 = .ok (.iconst 1, 1) := by decide +kernel
theorem dX2_run_136 : decode cX2_run 136 = .ok (.isub, 1) := by decide +kernel
theorem dX2_run_137 : decode cX2_run 137 = .ok (.iconst 1, 1) := by decide +kernel
theorem dX2_run_138 : decode cX2_run 138 = .ok (.aload 4, 2) := by decide +kernel
theorem dX2_run_140 : decode cX2_run 140 = .ok (.iload 5, 2) := by decide +kernel
theorem dX2_run_142 : decode cX2_run 142 = .ok (.iconst 1, 1) := by decide +kernel
theorem dX2_run_143 : decode cX2_run 143 = .ok (.isub, 1) := by decide +kernel
theorem dX2_run_144 : decode cX2_run 144 = .ok (.iaload, 1) := by decide +kernel
theorem dX2_run_145 : decode cX2_run 145 = .ok (.isub, 1) := by decide +kernel
theorem dX2_run_146 : decode cX2_run 146 = .ok (.iastore, 1) := by decide +kernel
theorem dX2_run_147 : decode cX2_run 147 = .ok (.goto 128, 3) := by decide +kernel
theorem dX2_run_150 : decode cX2_run 150 = .ok (.iload 7, 2) := by decide +kernel
theorem dX2_run_152 : decode cX2_run 152 = .ok (.iconst 3, 1) := by decide +kernel
theorem dX2_run_153 : decode cX2_run 153 = .ok (.if_icmp .eq 9, 3) := by decide +kernel
theorem dX2_run_156 : decode cX2_run 156 = .ok (.iload 7, 2) := by decide +kernel
theorem dX2_run_158 : decode cX2_run 158 = .ok (.iconst 4, 1) := by decide +kernel
theorem dX2_run_159 : decode cX2_run 159 = .ok (.if_icmp .ne 71, 3) := by decide +kernel
theorem dX2_run_162 : decode cX2_run 162 = .ok (.aload 4, 2) := by decide +kernel
theorem dX2_run_164 : decode cX2_run 164 = .ok (.iload 5, 2) := by decide +kernel
theorem dX2_run_166 : decode cX2_run 166 = .ok (.iconst 1, 1) := by decide +kernel
theorem dX2_run_167 : decode cX2_run 167 = .ok (.isub, 1) := by decide +kernel
theorem dX2_run_168 : decode cX2_run 168 = .ok (.iaload, 1) := by decide +kernel
theorem dX2_run_169 : decode cX2_run 169 = .ok (.iload 7, 2) := by decide +kernel
theorem dX2_run_171 : decode cX2_run 171 = .ok (.iconst 3, 1) := by decide +kernel
theorem dX2_run_172 : decode cX2_run 172 = .ok (.if_icmp .ne 7, 3) := by decide +kernel
theorem dX2_run_175 : decode cX2_run 175 = .ok (.iconst 1, 1) := by decide +kernel
theorem dX2_run_176 : decode cX2_run 176 = .ok (.goto 4, 3) := by decide +kernel
theorem dX2_run_179 : decode cX2_run 179 = .ok (.iconst 0, 1) := by decide +kernel
theorem dX2_run_180 : decode cX2_run 180 = .ok (.if_icmp .ne 7, 3) := by decide +kernel
theorem dX2_run_183 : decode cX2_run 183 = .ok (.iconst 1, 1) := by decide +kernel
theorem dX2_run_184 : decode cX2_run 184 = .ok (.goto 4, 3) := by decide +kernel
theorem dX2_run_187 : decode cX2_run 187 = .ok (.iconst 0, 1) := by decide +kernel
theorem dX2_run_188 : decode cX2_run 188 = .ok (.istore 9, 2) := by decide +kernel
theorem dX2_run_190 : decode cX2_run 190 = .ok (.iload 9, 2) := by decide +kernel
theorem dX2_run_192 : decode cX2_run 192 = .ok (.ifCond .eq 8, 3) := by decide +kernel
theorem dX2_run_195 : decode cX2_run 195 = .ok (.iload 5, 2) := by decide +kernel
theorem dX2_run_197 : decode cX2_run 197 = .ok (.goto 7, 3) := by decide +kernel
theorem dX2_run_200 : decode cX2_run 200 = .ok (.iload 5, 2) := by decide +kernel
theorem dX2_run_202 : decode cX2_run 202 = .ok (.iconst 1, 1) := by decide +kernel
theorem dX2_run_203 : decode cX2_run 203 = .ok (.isub, 1) := by decide +kernel
theorem dX2_run_204 : decode cX2_run 204 = .ok (.istore 5, 2) := by decide +kernel
theorem dX2_run_206 : decode cX2_run 206 = .ok (.iload 9, 2) := by decide +kernel
theorem dX2_run_208 : decode cX2_run 208 = .ok (.ifCond .eq 15, 3) := by decide +kernel
theorem dX2_run_211 : decode cX2_run 211 = .ok (.iload 6, 2) := by decide +kernel
theorem dX2_run_213 : decode cX2_run 213 = .ok (.iload 8, 2) := by decide +kernel
theorem dX2_run_215 : decode cX2_run 215 = .ok (.iconst 1, 1) := by decide +kernel
theorem dX2_run_216 : decode cX2_run 216 = .ok (.isub, 1) := by decide +kernel
theorem dX2_run_217 : decode cX2_run 217 = .ok (.invokestatic 26, 3) := by decide +kernel
theorem dX2_run_220 : decode cX2_run 220 = .ok (.goto 5, 3) := by decide +kernel
theorem dX2_run_223 : decode cX2_run 223 = .ok (.iload 6, 2) := by decide +kernel
theorem dX2_run_225 : decode cX2_run 225 = .ok (.istore 6, 2) := by decide +kernel
theorem dX2_run_227 : decode cX2_run 227 = .ok (.goto 48, 3) := by decide +kernel
theorem dX2_run_230 : decode cX2_run 230 = .ok (.iload 7, 2) := by decide +kernel
theorem dX2_run_232 : decode cX2_run 232 = .ok (.aload 4, 2) := by decide +kernel
theorem dX2_run_234 : decode cX2_run 234 = .ok (.iload 5, 2) := by decide +kernel
theorem dX2_run_236 : decode cX2_run 236 = .ok (.iconst 2, 1) := by decide +kernel
theorem dX2_run_237 : decode cX2_run 237 = .ok (.isub, 1) := by decide +kernel
theorem dX2_run_238 : decode cX2_run 238 = .ok (.iaload, 1) := by decide +kernel
theorem dX2_run_239 : decode cX2_run 239 = .ok (.i2l, 1) := by decide +kernel
theorem dX2_run_240 : decode cX2_run 240 = .ok (.aload 4, 2) := by decide +kernel
theorem dX2_run_242 : decode cX2_run 242 = .ok (.iload 5, 2) := by decide +kernel
theorem dX2_run_244 : decode cX2_run 244 = .ok (.iconst 1, 1) := by decide +kernel
theorem dX2_run_245 : decode cX2_run 245 = .ok (.isub, 1) := by decide +kernel
theorem dX2_run_246 : decode cX2_run 246 = .ok (.iaload, 1) := by decide +kernel
theorem dX2_run_247 : decode cX2_run 247 = .ok (.i2l, 1) := by decide +kernel
theorem dX2_run_248 : decode cX2_run 248 = .ok (.invokestatic 32, 3) := by decide +kernel
theorem dX2_run_251 : decode cX2_run 251 = .ok (.istore 9, 2) := by decide +kernel
theorem dX2_run_253 : decode cX2_run 253 = .ok (.iload 9, 2) := by decide +kernel
theorem dX2_run_255 : decode cX2_run 255 = .ok (.ldc 25, 2) := by decide +kernel
theorem dX2_run_257 : decode cX2_run 257 = .ok (.if_icmp .ne 6, 3) := by decide +kernel
theorem dX2_run_260 : decode cX2_run 260 = .ok (.ldc 25, 2) := by decide +kernel
theorem dX2_run_262 : decode cX2_run 262 = .ok (.ireturn, 1) := by decide +kernel
theorem dX2_run_263 : decode cX2_run 263 = .ok (.iinc 5 (-1), 3) := by decide +kernel
theorem dX2_run_266 : decode cX2_run 266 = .ok (.aload 4, 2) := by decide +kernel
theorem dX2_run_268 : decode cX2_run 268 = .ok (.iload 5, 2) := by decide +kernel
theorem dX2_run_270 : decode cX2_run 270 = .ok (.iconst 1, 1) := by decide +kernel
theorem dX2_run_271 : decode cX2_run 271 = .ok (.isub, 1) := by decide +kernel
theorem dX2_run_272 : decode cX2_run 272 = .ok (.iload 9, 2) := by decide +kernel
theorem dX2_run_274 : decode cX2_run 274 = .ok (.iastore, 1) := by decide +kernel
theorem dX2_run_275 : decode cX2_run 275 = .ok (.iinc 6 1, 3) := by decide +kernel
theorem dX2_run_278 : decode cX2_run 278 = .ok (.goto (-272), 3) := by decide +kernel
theorem dX2_run_281 : decode cX2_run 281 = .ok (.iload 5, 2) := by decide +kernel
theorem dX2_run_283 : decode cX2_run 283 = .ok (.iconst 1, 1) := by decide +kernel
theorem dX2_run_284 : decode cX2_run 284 = .ok (.if_icmp .ne 10, 3) := by decide +kernel
theorem dX2_run_287 : decode cX2_run 287 = .ok (.aload 4, 2) := by decide +kernel
theorem dX2_run_289 : decode cX2_run 289 = .ok (.iconst 0, 1) := by decide +kernel
theorem dX2_run_290 : decode cX2_run 290 = .ok (.iaload, 1) := by decide +kernel
theorem dX2_run_291 : decode cX2_run 291 = .ok (.goto 5, 3) := by decide +kernel
theorem dX2_run_294 : decode cX2_run 294 = .ok (.ldc 25, 2) := by decide +kernel
theorem dX2_run_296 : decode cX2_run 296 = .ok (.ireturn, 1) := by decide +kernel
def bX2_run_0 (l : Launch) (E : Ev) (d : Nat) (Q : Option Value → Hp → Prop) : Kt := k_push (.int 0) (k_istore 5 (k_iload 1 (k_istore 6 (Go l E YX2_run (d + 1) 0 0 Q 0 0 6))))
set_option maxRecDepth 100000 in
set_option maxHeartbeats 4000000 in
theorem gX2_run_0 {l : Launch} {E : Ev} {d : Nat} {Q : Option Value → Hp → Prop} {ls : Lv} {st : List Value} {h : Hp} (hB : bX2_run_0 l E d Q ls st h) : Go l E YX2_run (d + 1) 0 0 Q 0 0 0 ls st h :=
  (sd_iconst (v := 0) (by decide) dX2_run_0 (sd_istore (i := 5) (by decide) dX2_run_1 (sd_iload_n (i := 1) rfl dX2_run_3 (sd_istore (i := 6) (by decide) dX2_run_4 (Sd.go)))) : Sd l E YX2_run (d + 1) 0 0 Q 0 0 0 (bX2_run_0 l E d Q)) ls st h hB
def bX2_run_6 (l : Launch) (E : Ev) (d : Nat) (Q : Option Value → Hp → Prop) : Kt := k_iload 6 (k_iload 2 (k_icmp_ge (Go l E YX2_run (d + 1) 0 0 Q 0 0 281) (k_iload 6 (k_aload 0 (k_getR 2 3 2 (k_alen (k_icmp_ge (Go l E YX2_run (d + 1) 0 0 Q 0 0 281) (k_aload 0 (k_getR 2 3 2 (k_iload 6 (k_iaload (k_push (.int 255) (k_iand (k_istore 7 (k_aload 0 (k_getR 2 3 2 (k_iload 6 (k_iaload (k_push (.int 8) (k_ishr (k_istore 8 (k_iload 5 (k_aload 4 (k_alen (k_icmp_ge (k_push (.int (-2147483648)) (k_iret .int Q)) (k_iload 8 (k_if_ge (k_iload 7 (k_if_eq (Go l E YX2_run (d + 1) 0 0 Q 0 0 74) (k_iload 7 (k_push (.int 1) (k_icmp_ne (k_iload 5 (k_iload 7 (k_push (.int 5) (k_icmp_lt (k_push (.int 1) (Go l E YX2_run (d + 1) 0 0 Q 0 0 119)) (k_push (.int 2) (Go l E YX2_run (d + 1) 0 0 Q 0 0 119)))))) (Go l E YX2_run (d + 1) 0 0 Q 0 0 74)))))) (k_push (.int (-2147483648)) (k_iret .int Q)))))))))))))))))))))))))))))
set_option maxRecDepth 100000 in
set_option maxHeartbeats 4000000 in
theorem gX2_run_6 {l : Launch} {E : Ev} {d : Nat} {Q : Option Value → Hp → Prop} {ls : Lv} {st : List Value} {h : Hp} (hB : bX2_run_6 l E d Q ls st h) : Go l E YX2_run (d + 1) 0 0 Q 0 0 6 ls st h :=
  (sd_iload (n := 6) dX2_run_6 (sd_iload_n (i := 2) rfl dX2_run_8 (sd_icmp_ge (tgt := 281) (by decide) dX2_run_9 (Sd.go) (sd_iload (n := 6) dX2_run_12 (sd_aload_n (i := 0) rfl dX2_run_14 (sd_getR clsX2 (f := 2) (by decide) (fun _ _ _ => rfl) mw_751 dX2_run_15 (sd_alen dX2_run_18 (sd_icmp_ge (tgt := 281) (by decide) dX2_run_19 (Sd.go) (sd_aload_n (i := 0) rfl dX2_run_22 (sd_getR clsX2 (f := 2) (by decide) (fun _ _ _ => rfl) mw_751 dX2_run_23 (sd_iload (n := 6) dX2_run_26 (sd_iaload dX2_run_28 (sd_sipush (v := 255) (by decide) dX2_run_29 (sd_iand dX2_run_32 (sd_istore (i := 7) (by decide) dX2_run_33 (sd_aload_n (i := 0) rfl dX2_run_35 (sd_getR clsX2 (f := 2) (by decide) (fun _ _ _ => rfl) mw_751 dX2_run_36 (sd_iload (n := 6) dX2_run_39 (sd_iaload dX2_run_41 (sd_bipush (v := 8) (by decide) dX2_run_42 (sd_ishr dX2_run_44 (sd_istore (i := 8) (by decide) dX2_run_45 (sd_iload (n := 5) dX2_run_47 (sd_aload (n := 4) dX2_run_49 (sd_alen dX2_run_51 (sd_icmp_ge (tgt := 60) (by decide) dX2_run_52 (sd_ldc (v := (-2147483648)) mw_572 dX2_run_60 (sd_iret (ty := .int) rfl (by decide) (by decide) dX2_run_62)) (sd_iload (n := 8) dX2_run_55 (sd_if_ge (tgt := 63) (by decide) dX2_run_57 (sd_iload (n := 7) dX2_run_63 (sd_if_eq (tgt := 74) (by decide) dX2_run_65 (Sd.go) (sd_iload (n := 7) dX2_run_68 (sd_iconst (v := 1) (by decide) dX2_run_70 (sd_icmp_ne (tgt := 106) (by decide) dX2_run_71 (sd_iload (n := 5) dX2_run_106 (sd_iload (n := 7) dX2_run_108 (sd_iconst (v := 5) (by decide) dX2_run_110 (sd_icmp_lt (tgt := 118) (by decide) dX2_run_111 (sd_iconst (v := 1) (by decide) dX2_run_118 (Sd.go)) (sd_iconst (v := 2) (by decide) dX2_run_114 (sd_goto (tgt := 119) (by decide) dX2_run_115 (Sd.go))))))) (Sd.go)))))) (sd_ldc (v := (-2147483648)) mw_572 dX2_run_60 (sd_iret (ty := .int) rfl (by decide) (by decide) dX2_run_62))))))))))))))))))))))))))))) : Sd l E YX2_run (d + 1) 0 0 Q 0 0 6 (bX2_run_6 l E d Q)) ls st h hB
def bX2_run_74 (l : Launch) (E : Ev) (d : Nat) (Q : Option Value → Hp → Prop) : Kt := k_aload 4 (k_iload 5 (k_iload 7 (k_if_eq (k_iload 8 (k_iastore (k_iinc 5 1 (k_iinc 6 1 (Go l E YX2_run (d + 1) 0 0 Q 0 0 6))))) (k_iload 8 (k_aload 3 (k_alen (k_icmp_lt (k_aload 3 (k_iload 8 (k_iaload (k_iastore (k_iinc 5 1 (k_iinc 6 1 (Go l E YX2_run (d + 1) 0 0 Q 0 0 6))))))) (k_iload 8 (k_iastore (k_iinc 5 1 (k_iinc 6 1 (Go l E YX2_run (d + 1) 0 0 Q 0 0 6))))))))))))
set_option maxRecDepth 100000 in
set_option maxHeartbeats 4000000 in
theorem gX2_run_74 {l : Launch} {E : Ev} {d : Nat} {Q : Option Value → Hp → Prop} {ls : Lv} {st : List Value} {h : Hp} (hB : bX2_run_74 l E d Q ls st h) : Go l E YX2_run (d + 1) 0 0 Q 0 0 74 ls st h :=
  (sd_aload (n := 4) dX2_run_74 (sd_iload (n := 5) dX2_run_76 (sd_iload (n := 7) dX2_run_78 (sd_if_eq (tgt := 90) (by decide) dX2_run_80 (sd_iload (n := 8) dX2_run_90 (sd_goto (tgt := 99) (by decide) dX2_run_92 (sd_iastore dX2_run_99 (sd_iinc (i := 5) (v := 1) (by decide) (by decide) dX2_run_100 (sd_goto (tgt := 275) (by decide) dX2_run_103 (sd_iinc (i := 6) (v := 1) (by decide) (by decide) dX2_run_275 (sd_goto (tgt := 6) (by decide) dX2_run_278 (Sd.go)))))))) (sd_iload (n := 8) dX2_run_83 (sd_aload_n (i := 3) rfl dX2_run_85 (sd_alen dX2_run_86 (sd_icmp_lt (tgt := 95) (by decide) dX2_run_87 (sd_aload_n (i := 3) rfl dX2_run_95 (sd_iload (n := 8) dX2_run_96 (sd_iaload dX2_run_98 (sd_iastore dX2_run_99 (sd_iinc (i := 5) (v := 1) (by decide) (by decide) dX2_run_100 (sd_goto (tgt := 275) (by decide) dX2_run_103 (sd_iinc (i := 6) (v := 1) (by decide) (by decide) dX2_run_275 (sd_goto (tgt := 6) (by decide) dX2_run_278 (Sd.go))))))))) (sd_iload (n := 8) dX2_run_90 (sd_goto (tgt := 99) (by decide) dX2_run_92 (sd_iastore dX2_run_99 (sd_iinc (i := 5) (v := 1) (by decide) (by decide) dX2_run_100 (sd_goto (tgt := 275) (by decide) dX2_run_103 (sd_iinc (i := 6) (v := 1) (by decide) (by decide) dX2_run_275 (sd_goto (tgt := 6) (by decide) dX2_run_278 (Sd.go))))))))))))))) : Sd l E YX2_run (d + 1) 0 0 Q 0 0 74 (bX2_run_74 l E d Q)) ls st h hB
def bX2_run_119 (l : Launch) (E : Ev) (d : Nat) (Q : Option Value → Hp → Prop) : Kt := k_icmp_ge (k_iload 7 (k_push (.int 2) (k_icmp_ne (k_iload 7 (k_push (.int 3) (k_icmp_eq (Go l E YX2_run (d + 1) 0 0 Q 0 0 162) (k_iload 7 (k_push (.int 4) (k_icmp_ne (k_iload 7 (k_aload 4 (k_iload 5 (k_push (.int 2) (k_isub (k_iaload (k_i2l (k_aload 4 (k_iload 5 (k_push (.int 1) (k_isub (k_iaload (k_i2l (k_callS l E YX2_joined d 0 0 3 (k_istore 9 (k_iload 9 (k_push (.int (-2147483648)) (k_icmp_ne (k_iinc 5 (-1) (k_aload 4 (k_iload 5 (k_push (.int 1) (k_isub (k_iload 9 (k_iastore (k_iinc 6 1 (Go l E YX2_run (d + 1) 0 0 Q 0 0 6))))))))) (k_push (.int (-2147483648)) (k_iret .int Q)))))))))))))))))))) (Go l E YX2_run (d + 1) 0 0 Q 0 0 162))))))) (k_aload 4 (k_iload 5 (k_push (.int 1) (k_isub (k_push (.int 1) (k_aload 4 (k_iload 5 (k_push (.int 1) (k_isub (k_iaload (k_isub (k_iastore (k_iinc 6 1 (Go l E YX2_run (d + 1) 0 0 Q 0 0 6))))))))))))))))) (k_push (.int (-2147483648)) (k_iret .int Q))
set_option maxRecDepth 100000 in
set_option maxHeartbeats 4000000 in
theorem gX2_run_119 {l : Launch} {E : Ev} {d : Nat} {Q : Option Value → Hp → Prop} {ls : Lv} {st : List Value} {h : Hp} (hB : bX2_run_119 l E d Q ls st h) : Go l E YX2_run (d + 1) 0 0 Q 0 0 119 ls st h :=
  (sd_icmp_ge (tgt := 125) (by decide) dX2_run_119 (sd_iload (n := 7) dX2_run_125 (sd_iconst (v := 2) (by decide) dX2_run_127 (sd_icmp_ne (tgt := 150) (by decide) dX2_run_128 (sd_iload (n := 7) dX2_run_150 (sd_iconst (v := 3) (by decide) dX2_run_152 (sd_icmp_eq (tgt := 162) (by decide) dX2_run_153 (Sd.go) (sd_iload (n := 7) dX2_run_156 (sd_iconst (v := 4) (by decide) dX2_run_158 (sd_icmp_ne (tgt := 230) (by decide) dX2_run_159 (sd_iload (n := 7) dX2_run_230 (sd_aload (n := 4) dX2_run_232 (sd_iload (n := 5) dX2_run_234 (sd_iconst (v := 2) (by decide) dX2_run_236 (sd_isub dX2_run_237 (sd_iaload dX2_run_238 (sd_i2l dX2_run_239 (sd_aload (n := 4) dX2_run_240 (sd_iload (n := 5) dX2_run_242 (sd_iconst (v := 1) (by decide) dX2_run_244 (sd_isub dX2_run_245 (sd_iaload dX2_run_246 (sd_i2l dX2_run_247 (sd_callS (Y' := YX2_joined) (mc' := 0) (ms' := 0) (n := 3) mw_576 mw_577 mw_110 mw_578 (okmX2_joined) (by decide) (Nat.le_refl _) (by decide) (by decide) dX2_run_248 (sd_istore (i := 9) (by decide) dX2_run_251 (sd_iload (n := 9) dX2_run_253 (sd_ldc (v := (-2147483648)) mw_572 dX2_run_255 (sd_icmp_ne (tgt := 263) (by decide) dX2_run_257 (sd_iinc (i := 5) (v := (-1)) (by decide) (by decide) dX2_run_263 (sd_aload (n := 4) dX2_run_266 (sd_iload (n := 5) dX2_run_268 (sd_iconst (v := 1) (by decide) dX2_run_270 (sd_isub dX2_run_271 (sd_iload (n := 9) dX2_run_272 (sd_iastore dX2_run_274 (sd_iinc (i := 6) (v := 1) (by decide) (by decide) dX2_run_275 (sd_goto (tgt := 6) (by decide) dX2_run_278 (Sd.go)))))))))) (sd_ldc (v := (-2147483648)) mw_572 dX2_run_260 (sd_iret (ty := .int) rfl (by decide) (by decide) dX2_run_262)))))))))))))))))))) (Sd.go))))))) (sd_aload (n := 4) dX2_run_131 (sd_iload (n := 5) dX2_run_133 (sd_iconst (v := 1) (by decide) dX2_run_135 (sd_isub dX2_run_136 (sd_iconst (v := 1) (by decide) dX2_run_137 (sd_aload (n := 4) dX2_run_138 (sd_iload (n := 5) dX2_run_140 (sd_iconst (v := 1) (by decide) dX2_run_142 (sd_isub dX2_run_143 (sd_iaload dX2_run_144 (sd_isub dX2_run_145 (sd_iastore dX2_run_146 (sd_goto (tgt := 275) (by decide) dX2_run_147 (sd_iinc (i := 6) (v := 1) (by decide) (by decide) dX2_run_275 (sd_goto (tgt := 6) (by decide) dX2_run_278 (Sd.go))))))))))))))))))) (sd_ldc (v := (-2147483648)) mw_572 dX2_run_122 (sd_iret (ty := .int) rfl (by decide) (by decide) dX2_run_124)) : Sd l E YX2_run (d + 1) 0 0 Q 0 0 119 (bX2_run_119 l E d Q)) ls st h hB
def bX2_run_162 (l : Launch) (E : Ev) (d : Nat) (Q : Option Value → Hp → Prop) : Kt := k_aload 4 (k_iload 5 (k_push (.int 1) (k_isub (k_iaload (k_iload 7 (k_push (.int 3) (k_icmp_ne (k_push (.int 0) (Go l E YX2_run (d + 1) 0 0 Q 0 0 180)) (k_push (.int 1) (Go l E YX2_run (d + 1) 0 0 Q 0 0 180)))))))))
set_option maxRecDepth 100000 in
set_option maxHeartbeats 4000000 in
theorem gX2_run_162 {l : Launch} {E : Ev} {d : Nat} {Q : Option Value → Hp → Prop} {ls : Lv} {st : List Value} {h : Hp} (hB : bX2_run_162 l E d Q ls st h) : Go l E YX2_run (d + 1) 0 0 Q 0 0 162 ls st h :=
  (sd_aload (n := 4) dX2_run_162 (sd_iload (n := 5) dX2_run_164 (sd_iconst (v := 1) (by decide) dX2_run_166 (sd_isub dX2_run_167 (sd_iaload dX2_run_168 (sd_iload (n := 7) dX2_run_169 (sd_iconst (v := 3) (by decide) dX2_run_171 (sd_icmp_ne (tgt := 179) (by decide) dX2_run_172 (sd_iconst (v := 0) (by decide) dX2_run_179 (Sd.go)) (sd_iconst (v := 1) (by decide) dX2_run_175 (sd_goto (tgt := 180) (by decide) dX2_run_176 (Sd.go)))))))))) : Sd l E YX2_run (d + 1) 0 0 Q 0 0 162 (bX2_run_162 l E d Q)) ls st h hB
def bX2_run_180 (l : Launch) (E : Ev) (d : Nat) (Q : Option Value → Hp → Prop) : Kt := k_icmp_ne (k_push (.int 0) (Go l E YX2_run (d + 1) 0 0 Q 0 0 188)) (k_push (.int 1) (Go l E YX2_run (d + 1) 0 0 Q 0 0 188))
set_option maxRecDepth 100000 in
set_option maxHeartbeats 4000000 in
theorem gX2_run_180 {l : Launch} {E : Ev} {d : Nat} {Q : Option Value → Hp → Prop} {ls : Lv} {st : List Value} {h : Hp} (hB : bX2_run_180 l E d Q ls st h) : Go l E YX2_run (d + 1) 0 0 Q 0 0 180 ls st h :=
  (sd_icmp_ne (tgt := 187) (by decide) dX2_run_180 (sd_iconst (v := 0) (by decide) dX2_run_187 (Sd.go)) (sd_iconst (v := 1) (by decide) dX2_run_183 (sd_goto (tgt := 188) (by decide) dX2_run_184 (Sd.go))) : Sd l E YX2_run (d + 1) 0 0 Q 0 0 180 (bX2_run_180 l E d Q)) ls st h hB
def bX2_run_188 (l : Launch) (E : Ev) (d : Nat) (Q : Option Value → Hp → Prop) : Kt := k_istore 9 (k_iload 9 (k_if_eq (k_iload 5 (k_push (.int 1) (k_isub (Go l E YX2_run (d + 1) 0 0 Q 0 0 204)))) (k_iload 5 (Go l E YX2_run (d + 1) 0 0 Q 0 0 204))))
set_option maxRecDepth 100000 in
set_option maxHeartbeats 4000000 in
theorem gX2_run_188 {l : Launch} {E : Ev} {d : Nat} {Q : Option Value → Hp → Prop} {ls : Lv} {st : List Value} {h : Hp} (hB : bX2_run_188 l E d Q ls st h) : Go l E YX2_run (d + 1) 0 0 Q 0 0 188 ls st h :=
  (sd_istore (i := 9) (by decide) dX2_run_188 (sd_iload (n := 9) dX2_run_190 (sd_if_eq (tgt := 200) (by decide) dX2_run_192 (sd_iload (n := 5) dX2_run_200 (sd_iconst (v := 1) (by decide) dX2_run_202 (sd_isub dX2_run_203 (Sd.go)))) (sd_iload (n := 5) dX2_run_195 (sd_goto (tgt := 204) (by decide) dX2_run_197 (Sd.go))))) : Sd l E YX2_run (d + 1) 0 0 Q 0 0 188 (bX2_run_188 l E d Q)) ls st h hB
def bX2_run_204 (l : Launch) (E : Ev) (d : Nat) (Q : Option Value → Hp → Prop) : Kt := k_istore 5 (k_iload 9 (k_if_eq (k_iload 6 (k_istore 6 (k_iinc 6 1 (Go l E YX2_run (d + 1) 0 0 Q 0 0 6)))) (k_iload 6 (k_iload 8 (k_push (.int 1) (k_isub (k_mmax (k_istore 6 (k_iinc 6 1 (Go l E YX2_run (d + 1) 0 0 Q 0 0 6))))))))))
set_option maxRecDepth 100000 in
set_option maxHeartbeats 4000000 in
theorem gX2_run_204 {l : Launch} {E : Ev} {d : Nat} {Q : Option Value → Hp → Prop} {ls : Lv} {st : List Value} {h : Hp} (hB : bX2_run_204 l E d Q ls st h) : Go l E YX2_run (d + 1) 0 0 Q 0 0 204 ls st h :=
  (sd_istore (i := 5) (by decide) dX2_run_204 (sd_iload (n := 9) dX2_run_206 (sd_if_eq (tgt := 223) (by decide) dX2_run_208 (sd_iload (n := 6) dX2_run_223 (sd_istore (i := 6) (by decide) dX2_run_225 (sd_goto (tgt := 275) (by decide) dX2_run_227 (sd_iinc (i := 6) (v := 1) (by decide) (by decide) dX2_run_275 (sd_goto (tgt := 6) (by decide) dX2_run_278 (Sd.go)))))) (sd_iload (n := 6) dX2_run_211 (sd_iload (n := 8) dX2_run_213 (sd_iconst (v := 1) (by decide) dX2_run_215 (sd_isub dX2_run_216 (sd_mmax mw_573 mw_574 mw_109 mw_575 (by omega) (by decide) (by decide) dX2_run_217 (sd_goto (tgt := 225) (by decide) dX2_run_220 (sd_istore (i := 6) (by decide) dX2_run_225 (sd_goto (tgt := 275) (by decide) dX2_run_227 (sd_iinc (i := 6) (v := 1) (by decide) (by decide) dX2_run_275 (sd_goto (tgt := 6) (by decide) dX2_run_278 (Sd.go))))))))))))) : Sd l E YX2_run (d + 1) 0 0 Q 0 0 204 (bX2_run_204 l E d Q)) ls st h hB
def bX2_run_281 (l : Launch) (E : Ev) (d : Nat) (Q : Option Value → Hp → Prop) : Kt := k_iload 5 (k_push (.int 1) (k_icmp_ne (k_push (.int (-2147483648)) (k_iret .int Q)) (k_aload 4 (k_push (.int 0) (k_iaload (k_iret .int Q))))))
set_option maxRecDepth 100000 in
set_option maxHeartbeats 4000000 in
theorem gX2_run_281 {l : Launch} {E : Ev} {d : Nat} {Q : Option Value → Hp → Prop} {ls : Lv} {st : List Value} {h : Hp} (hB : bX2_run_281 l E d Q ls st h) : Go l E YX2_run (d + 1) 0 0 Q 0 0 281 ls st h :=
  (sd_iload (n := 5) dX2_run_281 (sd_iconst (v := 1) (by decide) dX2_run_283 (sd_icmp_ne (tgt := 294) (by decide) dX2_run_284 (sd_ldc (v := (-2147483648)) mw_572 dX2_run_294 (sd_iret (ty := .int) rfl (by decide) (by decide) dX2_run_296)) (sd_aload (n := 4) dX2_run_287 (sd_iconst (v := 0) (by decide) dX2_run_289 (sd_iaload dX2_run_290 (sd_goto (tgt := 296) (by decide) dX2_run_291 (sd_iret (ty := .int) rfl (by decide) (by decide) dX2_run_296))))))) : Sd l E YX2_run (d + 1) 0 0 Q 0 0 281 (bX2_run_281 l E d Q)) ls st h hB
theorem eX2_run {l : Launch} {E : Ev} {d : Nat} {Q : Option Value → Hp → Prop} {h : Hp} {a0 : Nat} {x1 : Int32} {x2 : Int32} {x3 : Nat} {x4 : Nat} (hk : Go l E YX2_run d 0 0 Q 0 0 0 [some (.ref a0), some (.int x1), some (.int x2), some (.ref x3), some (.ref x4), none, none, none, none, none] [] h) : GoM l E YX2_run d 0 0 [.ref a0, .int x1, .int x2, .ref x3, .ref x4] h Q := GoM.of (by decide +kernel) rfl (by simp [entA, YX2_run]) hk
theorem dX2_joined_0 : decode cX2_joined 0 = .ok (.iload_n 0, 1) := by decide +kernel
theorem dX2_joined_1 : decode cX2_joined 1 = .ok (.tableswitch 120 5 11 #[43, 51, 59, 67, 84, 96, 108], 43) := by decide +kernel
theorem dX2_joined_44 : decode cX2_joined 44 = .ok (.lload_n 1, 1) := by decide +kernel
theorem dX2_joined_45 : decode cX2_joined 45 = .ok (.lload_n 3, 1) := by decide +kernel
theorem dX2_joined_46 : decode cX2_joined 46 = .ok (.ladd, 1) := by decide +kernel
theorem dX2_joined_47 : decode cX2_joined 47 = .ok (.lstore 5, 2) := by decide +kernel
theorem dX2_joined_49 : decode cX2_joined 49 = .ok (.goto 75, 3) := by decide +kernel
theorem dX2_joined_52 : decode cX2_joined 52 = .ok (.lload_n 1, 1) := by decide +kernel
theorem dX2_joined_53 : decode cX2_joined 53 = .ok (.lload_n 3, 1) := by decide +kernel
theorem dX2_joined_54 : decode cX2_joined 54 = .ok (.lsub, 1) := by decide +kernel
theorem dX2_joined_55 : decode cX2_joined 55 = .ok (.lstore 5, 2) := by decide +kernel
theorem dX2_joined_57 : decode cX2_joined 57 = .ok (.goto 67, 3) := by decide +kernel
theorem dX2_joined_60 : decode cX2_joined 60 = .ok (.lload_n 1, 1) := by decide +kernel
theorem dX2_joined_61 : decode cX2_joined 61 = .ok (.lload_n 3, 1) := by decide +kernel
theorem dX2_joined_62 : decode cX2_joined 62 = .ok (.lmul, 1) := by decide +kernel
theorem dX2_joined_63 : decode cX2_joined 63 = .ok (.lstore 5, 2) := by decide +kernel
theorem dX2_joined_65 : decode cX2_joined 65 = .ok (.goto 59, 3) := by decide +kernel
theorem dX2_joined_68 : decode cX2_joined 68 = .ok (.lload_n 3, 1) := by decide +kernel
theorem dX2_joined_69 : decode cX2_joined 69 = .ok (.lconst 0, 1) := by decide +kernel
theorem dX2_joined_70 : decode cX2_joined 70 = .ok (.lcmp, 1) := by decide +kernel
theorem dX2_joined_71 : decode cX2_joined 71 = .ok (.ifCond .ne 6, 3) := by decide +kernel
theorem dX2_joined_74 : decode cX2_joined 74 = .ok (.ldc 25, 2) := by decide +kernel
theorem dX2_joined_76 : decode cX2_joined 76 = .ok (.ireturn, 1) := by decide +kernel
theorem dX2_joined_77 : decode cX2_joined 77 = .ok (.lload_n 1, 1) := by decide +kernel
theorem dX2_joined_78 : decode cX2_joined 78 = .ok (.lload_n 3, 1) := by decide +kernel
theorem dX2_joined_79 : decode cX2_joined 79 = .ok (.ldiv, 1) := by decide +kernel
theorem dX2_joined_80 : decode cX2_joined 80 = .ok (.lstore 5, 2) := by decide +kernel
theorem dX2_joined_82 : decode cX2_joined 82 = .ok (.goto 42, 3) := by decide +kernel
theorem dX2_joined_85 : decode cX2_joined 85 = .ok (.lload_n 1, 1) := by decide +kernel
theorem dX2_joined_86 : decode cX2_joined 86 = .ok (.lload_n 3, 1) := by decide +kernel
theorem dX2_joined_87 : decode cX2_joined 87 = .ok (.lcmp, 1) := by decide +kernel
theorem dX2_joined_88 : decode cX2_joined 88 = .ok (.ifCond .ge 7, 3) := by decide +kernel
theorem dX2_joined_91 : decode cX2_joined 91 = .ok (.iconst 1, 1) := by decide +kernel
theorem dX2_joined_92 : decode cX2_joined 92 = .ok (.goto 4, 3) := by decide +kernel
theorem dX2_joined_95 : decode cX2_joined 95 = .ok (.iconst 0, 1) := by decide +kernel
theorem dX2_joined_96 : decode cX2_joined 96 = .ok (.ireturn, 1) := by decide +kernel
theorem dX2_joined_97 : decode cX2_joined 97 = .ok (.lload_n 1, 1) := by decide +kernel
theorem dX2_joined_98 : decode cX2_joined 98 = .ok (.lload_n 3, 1) := by decide +kernel
theorem dX2_joined_99 : decode cX2_joined 99 = .ok (.lcmp, 1) := by decide +kernel
theorem dX2_joined_100 : decode cX2_joined 100 = .ok (.ifCond .le 7, 3) := by decide +kernel
theorem dX2_joined_103 : decode cX2_joined 103 = .ok (.iconst 1, 1) := by decide +kernel
theorem dX2_joined_104 : decode cX2_joined 104 = .ok (.goto 4, 3) := by decide +kernel
theorem dX2_joined_107 : decode cX2_joined 107 = .ok (.iconst 0, 1) := by decide +kernel
theorem dX2_joined_108 : decode cX2_joined 108 = .ok (.ireturn, 1) := by decide +kernel
theorem dX2_joined_109 : decode cX2_joined 109 = .ok (.lload_n 1, 1) := by decide +kernel
theorem dX2_joined_110 : decode cX2_joined 110 = .ok (.lload_n 3, 1) := by decide +kernel
theorem dX2_joined_111 : decode cX2_joined 111 = .ok (.lcmp, 1) := by decide +kernel
theorem dX2_joined_112 : decode cX2_joined 112 = .ok (.ifCond .ne 7, 3) := by decide +kernel
theorem dX2_joined_115 : decode cX2_joined 115 = .ok (.iconst 1, 1) := by decide +kernel
theorem dX2_joined_116 : decode cX2_joined 116 = .ok (.goto 4, 3) := by decide +kernel
theorem dX2_joined_119 : decode cX2_joined 119 = .ok (.iconst 0, 1) := by decide +kernel
theorem dX2_joined_120 : decode cX2_joined 120 = .ok (.ireturn, 1) := by decide +kernel
theorem dX2_joined_121 : decode cX2_joined 121 = .ok (.ldc 25, 2) := by decide +kernel
theorem dX2_joined_123 : decode cX2_joined 123 = .ok (.ireturn, 1) := by decide +kernel
theorem dX2_joined_124 : decode cX2_joined 124 = .ok (.lload 5, 2) := by decide +kernel
theorem dX2_joined_126 : decode cX2_joined 126 = .ok (.ldc2_w 36, 3) := by decide +kernel
theorem dX2_joined_129 : decode cX2_joined 129 = .ok (.lcmp, 1) := by decide +kernel
theorem dX2_joined_130 : decode cX2_joined 130 = .ok (.ifCond .gt 12, 3) := by decide +kernel
theorem dX2_joined_133 : decode cX2_joined 133 = .ok (.lload 5, 2) := by decide +kernel
theorem dX2_joined_135 : decode cX2_joined 135 = .ok (.ldc2_w 38, 3) := by decide +kernel
theorem dX2_joined_138 : decode cX2_joined 138 = .ok (.lcmp, 1) := by decide +kernel
theorem dX2_joined_139 : decode cX2_joined 139 = .ok (.ifCond .ge 8, 3) := by decide +kernel
theorem dX2_joined_142 : decode cX2_joined 142 = .ok (.ldc 25, 2) := by decide +kernel
theorem dX2_joined_144 : decode cX2_joined 144 = .ok (.goto 6, 3) := by decide +kernel
theorem dX2_joined_147 : decode cX2_joined 147 = .ok (.lload 5, 2) := by decide +kernel
theorem dX2_joined_149 : decode cX2_joined 149 = .ok (.l2i, 1) := by decide +kernel
theorem dX2_joined_150 : decode cX2_joined 150 = .ok (.ireturn, 1) := by decide +kernel
def bX2_joined_0 (l : Launch) (E : Ev) (d : Nat) (Q : Option Value → Hp → Prop) : Kt := k_iload 0 (k_sw [(5, (k_lload 1 (k_lload 3 (k_ladd (k_lstore 5 (Go l E YX2_joined (d + 1) 0 0 Q 0 0 124)))))), (6, (k_lload 1 (k_lload 3 (k_lsub (k_lstore 5 (Go l E YX2_joined (d + 1) 0 0 Q 0 0 124)))))), (7, (k_lload 1 (k_lload 3 (k_lmul (k_lstore 5 (Go l E YX2_joined (d + 1) 0 0 Q 0 0 124)))))), (8, (k_lload 3 (k_push (.long 0) (k_lcmp (k_if_ne (k_lload 1 (k_lload 3 (k_ldiv (k_lstore 5 (Go l E YX2_joined (d + 1) 0 0 Q 0 0 124))))) (k_push (.int (-2147483648)) (k_iret .int Q))))))), (9, (k_lload 1 (k_lload 3 (k_lcmp (k_if_ge (k_push (.int 0) (k_iret .int Q)) (k_push (.int 1) (k_iret .int Q))))))), (10, (k_lload 1 (k_lload 3 (k_lcmp (k_if_le (k_push (.int 0) (k_iret .int Q)) (k_push (.int 1) (k_iret .int Q))))))), (11, (k_lload 1 (k_lload 3 (k_lcmp (k_if_ne (k_push (.int 0) (k_iret .int Q)) (k_push (.int 1) (k_iret .int Q)))))))] (k_push (.int (-2147483648)) (k_iret .int Q)))
set_option maxRecDepth 100000 in
set_option maxHeartbeats 4000000 in
theorem gX2_joined_0 {l : Launch} {E : Ev} {d : Nat} {Q : Option Value → Hp → Prop} {ls : Lv} {st : List Value} {h : Hp} (hB : bX2_joined_0 l E d Q ls st h) : Go l E YX2_joined (d + 1) 0 0 Q 0 0 0 ls st h :=
  (sd_iload_n (i := 0) rfl dX2_joined_0 (sd_table dX2_joined_1 (dt := 121) (by decide) (sd_ldc (v := (-2147483648)) mw_572 dX2_joined_121 (sd_iret (ty := .int) rfl (by decide) (by decide) dX2_joined_123)) rfl (tb_all (tb_cons (off := 43) (tgt := 44) (by decide) rfl (by decide) (sd_lload_n (i := 1) rfl dX2_joined_44 (sd_lload_n (i := 3) rfl dX2_joined_45 (sd_ladd dX2_joined_46 (sd_lstore (i := 5) (by decide) dX2_joined_47 (sd_goto (tgt := 124) (by decide) dX2_joined_49 (Sd.go)))))) (tb_cons (off := 51) (tgt := 52) (by decide) rfl (by decide) (sd_lload_n (i := 1) rfl dX2_joined_52 (sd_lload_n (i := 3) rfl dX2_joined_53 (sd_lsub dX2_joined_54 (sd_lstore (i := 5) (by decide) dX2_joined_55 (sd_goto (tgt := 124) (by decide) dX2_joined_57 (Sd.go)))))) (tb_cons (off := 59) (tgt := 60) (by decide) rfl (by decide) (sd_lload_n (i := 1) rfl dX2_joined_60 (sd_lload_n (i := 3) rfl dX2_joined_61 (sd_lmul dX2_joined_62 (sd_lstore (i := 5) (by decide) dX2_joined_63 (sd_goto (tgt := 124) (by decide) dX2_joined_65 (Sd.go)))))) (tb_cons (off := 67) (tgt := 68) (by decide) rfl (by decide) (sd_lload_n (i := 3) rfl dX2_joined_68 (sd_lconst (v := 0) (by decide) dX2_joined_69 (sd_lcmp dX2_joined_70 (sd_if_ne (tgt := 77) (by decide) dX2_joined_71 (sd_lload_n (i := 1) rfl dX2_joined_77 (sd_lload_n (i := 3) rfl dX2_joined_78 (sd_ldiv dX2_joined_79 (sd_lstore (i := 5) (by decide) dX2_joined_80 (sd_goto (tgt := 124) (by decide) dX2_joined_82 (Sd.go)))))) (sd_ldc (v := (-2147483648)) mw_572 dX2_joined_74 (sd_iret (ty := .int) rfl (by decide) (by decide) dX2_joined_76)))))) (tb_cons (off := 84) (tgt := 85) (by decide) rfl (by decide) (sd_lload_n (i := 1) rfl dX2_joined_85 (sd_lload_n (i := 3) rfl dX2_joined_86 (sd_lcmp dX2_joined_87 (sd_if_ge (tgt := 95) (by decide) dX2_joined_88 (sd_iconst (v := 0) (by decide) dX2_joined_95 (sd_iret (ty := .int) rfl (by decide) (by decide) dX2_joined_96)) (sd_iconst (v := 1) (by decide) dX2_joined_91 (sd_goto (tgt := 96) (by decide) dX2_joined_92 (sd_iret (ty := .int) rfl (by decide) (by decide) dX2_joined_96))))))) (tb_cons (off := 96) (tgt := 97) (by decide) rfl (by decide) (sd_lload_n (i := 1) rfl dX2_joined_97 (sd_lload_n (i := 3) rfl dX2_joined_98 (sd_lcmp dX2_joined_99 (sd_if_le (tgt := 107) (by decide) dX2_joined_100 (sd_iconst (v := 0) (by decide) dX2_joined_107 (sd_iret (ty := .int) rfl (by decide) (by decide) dX2_joined_108)) (sd_iconst (v := 1) (by decide) dX2_joined_103 (sd_goto (tgt := 108) (by decide) dX2_joined_104 (sd_iret (ty := .int) rfl (by decide) (by decide) dX2_joined_108))))))) (tb_cons (off := 108) (tgt := 109) (by decide) rfl (by decide) (sd_lload_n (i := 1) rfl dX2_joined_109 (sd_lload_n (i := 3) rfl dX2_joined_110 (sd_lcmp dX2_joined_111 (sd_if_ne (tgt := 119) (by decide) dX2_joined_112 (sd_iconst (v := 0) (by decide) dX2_joined_119 (sd_iret (ty := .int) rfl (by decide) (by decide) dX2_joined_120)) (sd_iconst (v := 1) (by decide) dX2_joined_115 (sd_goto (tgt := 120) (by decide) dX2_joined_116 (sd_iret (ty := .int) rfl (by decide) (by decide) dX2_joined_120))))))) (tb_nil)))))))))) : Sd l E YX2_joined (d + 1) 0 0 Q 0 0 0 (bX2_joined_0 l E d Q)) ls st h hB
def bX2_joined_124 (l : Launch) (E : Ev) (d : Nat) (Q : Option Value → Hp → Prop) : Kt := k_lload 5 (k_push (.long 1000000000) (k_lcmp (k_if_gt (k_push (.int (-2147483648)) (k_iret .int Q)) (k_lload 5 (k_push (.long (-1000000000)) (k_lcmp (k_if_ge (k_lload 5 (k_l2i (k_iret .int Q))) (k_push (.int (-2147483648)) (k_iret .int Q)))))))))
set_option maxRecDepth 100000 in
set_option maxHeartbeats 4000000 in
theorem gX2_joined_124 {l : Launch} {E : Ev} {d : Nat} {Q : Option Value → Hp → Prop} {ls : Lv} {st : List Value} {h : Hp} (hB : bX2_joined_124 l E d Q ls st h) : Go l E YX2_joined (d + 1) 0 0 Q 0 0 124 ls st h :=
  (sd_lload (n := 5) dX2_joined_124 (sd_ldc2 (v := 1000000000) mw_579 dX2_joined_126 (sd_lcmp dX2_joined_129 (sd_if_gt (tgt := 142) (by decide) dX2_joined_130 (sd_ldc (v := (-2147483648)) mw_572 dX2_joined_142 (sd_goto (tgt := 150) (by decide) dX2_joined_144 (sd_iret (ty := .int) rfl (by decide) (by decide) dX2_joined_150))) (sd_lload (n := 5) dX2_joined_133 (sd_ldc2 (v := (-1000000000)) mw_580 dX2_joined_135 (sd_lcmp dX2_joined_138 (sd_if_ge (tgt := 147) (by decide) dX2_joined_139 (sd_lload (n := 5) dX2_joined_147 (sd_l2i dX2_joined_149 (sd_iret (ty := .int) rfl (by decide) (by decide) dX2_joined_150))) (sd_ldc (v := (-2147483648)) mw_572 dX2_joined_142 (sd_goto (tgt := 150) (by decide) dX2_joined_144 (sd_iret (ty := .int) rfl (by decide) (by decide) dX2_joined_150)))))))))) : Sd l E YX2_joined (d + 1) 0 0 Q 0 0 124 (bX2_joined_124 l E d Q)) ls st h hB
theorem eX2_joined {l : Launch} {E : Ev} {d : Nat} {Q : Option Value → Hp → Prop} {h : Hp} {x1 : Int32} {x2 : Int64} {x3 : Int64} (hk : Go l E YX2_joined d 0 0 Q 0 0 0 [some (.int x1), some (.long x2), none, some (.long x3), none, none, none] [] h) : GoM l E YX2_joined d 0 0 [.int x1, .long x2, .long x3] h Q := GoM.of (by decide +kernel) rfl (by simp [entA, YX2_joined]) hk
