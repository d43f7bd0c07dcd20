theorem dJ6_numberOfTrailingZeros_0f7a4_0 : decode cJ6_numberOfTrailingZeros_0f7a4 0 = .ok (.iload_n 0, 1) := by decide +kernel
theorem dJ6_numberOfTrailingZeros_0f7a4_1 : decode cJ6_numberOfTrailingZeros_0f7a4 1 = .ok (.iconst (-1), 1) := by decide +kernel
theorem dJ6_numberOfTrailingZeros_0f7a4_2 : decode cJ6_numberOfTrailingZeros_0f7a4 2 = .ok (.ixor, 1) := by decide +kernel
theorem dJ6_numberOfTrailingZeros_0f7a4_3 : decode cJ6_numberOfTrailingZeros_0f7a4 3 = .ok (.iload_n 0, 1) := by decide +kernel
theorem dJ6_numberOfTrailingZeros_0f7a4_4 : decode cJ6_numberOfTrailingZeros_0f7a4 4 = .ok (.iconst 1, 1) := by decide +kernel
theorem dJ6_numberOfTrailingZeros_0f7a4_5 : decode cJ6_numberOfTrailingZeros_0f7a4 5 = .ok (.isub, 1) := by decide +kernel
theorem dJ6_numberOfTrailingZeros_0f7a4_6 : decode cJ6_numberOfTrailingZeros_0f7a4 6 = .ok (.iand, 1) := by decide +kernel
theorem dJ6_numberOfTrailingZeros_0f7a4_7 : decode cJ6_numberOfTrailingZeros_0f7a4 7 = .ok (.istore_n 0, 1) := by decide +kernel
theorem dJ6_numberOfTrailingZeros_0f7a4_8 : decode cJ6_numberOfTrailingZeros_0f7a4 8 = .ok (.iload_n 0, 1) := by decide +kernel
theorem dJ6_numberOfTrailingZeros_0f7a4_9 : decode cJ6_numberOfTrailingZeros_0f7a4 9 = .ok (.ifCond .gt 8, 3) := by decide +kernel
theorem dJ6_numberOfTrailingZeros_0f7a4_12 : decode cJ6_numberOfTrailingZeros_0f7a4 12 = .ok (.iload_n 0, 1) := by decide +kernel
theorem dJ6_numberOfTrailingZeros_0f7a4_13 : decode cJ6_numberOfTrailingZeros_0f7a4 13 = .ok (.bipush 32, 2) := by decide +kernel
theorem dJ6_numberOfTrailingZeros_0f7a4_15 : decode cJ6_numberOfTrailingZeros_0f7a4 15 = .ok (.iand, 1) := by decide +kernel
theorem dJ6_numberOfTrailingZeros_0f7a4_16 : decode cJ6_numberOfTrailingZeros_0f7a4 16 = .ok (.ireturn, 1) := by decide +kernel
theorem dJ6_numberOfTrailingZeros_0f7a4_17 : decode cJ6_numberOfTrailingZeros_0f7a4 17 = .ok (.iconst 1, 1) := by decide +kernel
theorem dJ6_numberOfTrailingZeros_0f7a4_18 : decode cJ6_numberOfTrailingZeros_0f7a4 18 = .ok (.istore_n 1, 1) := by decide +kernel
theorem dJ6_numberOfTrailingZeros_0f7a4_19 : decode cJ6_numberOfTrailingZeros_0f7a4 19 = .ok (.iload_n 0, 1) := by decide +kernel
theorem dJ6_numberOfTrailingZeros_0f7a4_20 : decode cJ6_numberOfTrailingZeros_0f7a4 20 = .ok (.ldc_w 264, 3) := by decide +kernel
theorem dJ6_numberOfTrailingZeros_0f7a4_23 : decode cJ6_numberOfTrailingZeros_0f7a4 23 = .ok (.if_icmp .le 11, 3) := by decide +kernel
theorem dJ6_numberOfTrailingZeros_0f7a4_26 : decode cJ6_numberOfTrailingZeros_0f7a4 26 = .ok (.iinc 1 16, 3) := by decide +kernel
theorem dJ6_numberOfTrailingZeros_0f7a4_29 : decode cJ6_numberOfTrailingZeros_0f7a4 29 = .ok (.iload_n 0, 1) := by decide +kernel
theorem dJ6_numberOfTrailingZeros_0f7a4_30 : decode cJ6_numberOfTrailingZeros_0f7a4 30 = .ok (.bipush 16, 2) := by decide +kernel
theorem dJ6_numberOfTrailingZeros_0f7a4_32 : decode cJ6_numberOfTrailingZeros_0f7a4 32 = .ok (.iushr, 1) := by decide +kernel
theorem dJ6_numberOfTrailingZeros_0f7a4_33 : decode cJ6_numberOfTrailingZeros_0f7a4 33 = .ok (.istore_n 0, 1) := by decide +kernel
theorem dJ6_numberOfTrailingZeros_0f7a4_34 : decode cJ6_numberOfTrailingZeros_0f7a4 34 = .ok (.iload_n 0, 1) := by decide +kernel
theorem dJ6_numberOfTrailingZeros_0f7a4_35 : decode cJ6_numberOfTrailingZeros_0f7a4 35 = .ok (.sipush 256, 3) := by decide +kernel
theorem dJ6_numberOfTrailingZeros_0f7a4_38 : decode cJ6_numberOfTrailingZeros_0f7a4 38 = .ok (.if_icmp .le 11, 3) := by decide +kernel
theorem dJ6_numberOfTrailingZeros_0f7a4_41 : decode cJ6_numberOfTrailingZeros_0f7a4 41 = .ok (.iinc 1 8, 3) := by decide +kernel
theorem dJ6_numberOfTrailingZeros_0f7a4_44 : decode cJ6_numberOfTrailingZeros_0f7a4 44 = .ok (.iload_n 0, 1) := by decide +kernel
theorem dJ6_numberOfTrailingZeros_0f7a4_45 : decode cJ6_numberOfTrailingZeros_0f7a4 45 = .ok (.bipush 8, 2) := by decide +kernel
theorem dJ6_numberOfTrailingZeros_0f7a4_47 : decode cJ6_numberOfTrailingZeros_0f7a4 47 = .ok (.iushr, 1) := by decide +kernel
theorem dJ6_numberOfTrailingZeros_0f7a4_48 : decode cJ6_numberOfTrailingZeros_0f7a4 48 = .ok (.istore_n 0, 1) := by decide +kernel
theorem dJ6_numberOfTrailingZeros_0f7a4_49 : decode cJ6_numberOfTrailingZeros_0f7a4 49 = .ok (.iload_n 0, 1) := by decide +kernel
theorem dJ6_numberOfTrailingZeros_0f7a4_50 : decode cJ6_numberOfTrailingZeros_0f7a4 50 = .ok (.bipush 16, 2) := by decide +kernel
theorem dJ6_numberOfTrailingZeros_0f7a4_52 : decode cJ6_numberOfTrailingZeros_0f7a4 52 = .ok (.if_icmp .le 10, 3) := by decide +kernel
theorem dJ6_numberOfTrailingZeros_0f7a4_55 : decode cJ6_numberOfTrailingZeros_0f7a4 55 = .ok (.iinc 1 4, 3) := by decide +kernel
theorem dJ6_numberOfTrailingZeros_0f7a4_58 : decode cJ6_numberOfTrailingZeros_0f7a4 58 = .ok (.iload_n 0, 1) := by decide +kernel
theorem dJ6_numberOfTrailingZeros_0f7a4_59 : decode cJ6_numberOfTrailingZeros_0f7a4 59 = .ok (.iconst 4, 1) := by decide +kernel
theorem dJ6_numberOfTrailingZeros_0f7a4_60 : decode cJ6_numberOfTrailingZeros_0f7a4 60 = .ok (.iushr, 1) := by decide +kernel
theorem dJ6_numberOfTrailingZeros_0f7a4_61 : decode cJ6_numberOfTrailingZeros_0f7a4 61 = .ok (.istore_n 0, 1) := by decide +kernel
theorem dJ6_numberOfTrailingZeros_0f7a4_62 : decode cJ6_numberOfTrailingZeros_0f7a4 62 = .ok (.iload_n 0, 1) := by decide +kernel
theorem dJ6_numberOfTrailingZeros_0f7a4_63 : decode cJ6_numberOfTrailingZeros_0f7a4 63 = .ok (.iconst 4, 1) := by decide +kernel
theorem dJ6_numberOfTrailingZeros_0f7a4_64 : decode cJ6_numberOfTrailingZeros_0f7a4 64 = .ok (.if_icmp .le 10, 3) := by decide +kernel
theorem dJ6_numberOfTrailingZeros_0f7a4_67 : decode cJ6_numberOfTrailingZeros_0f7a4 67 = .ok (.iinc 1 2, 3) := by decide +kernel
theorem dJ6_numberOfTrailingZeros_0f7a4_70 : decode cJ6_numberOfTrailingZeros_0f7a4 70 = .ok (.iload_n 0, 1) := by decide +kernel
theorem dJ6_numberOfTrailingZeros_0f7a4_71 : decode cJ6_numberOfTrailingZeros_0f7a4 71 = .ok (.iconst 2, 1) := by decide +kernel
theorem dJ6_numberOfTrailingZeros_0f7a4_72 : decode cJ6_numberOfTrailingZeros_0f7a4 72 = .ok (.iushr, 1) := by decide +kernel
theorem dJ6_numberOfTrailingZeros_0f7a4_73 : decode cJ6_numberOfTrailingZeros_0f7a4 73 = .ok (.istore_n 0, 1) := by decide +kernel
theorem dJ6_numberOfTrailingZeros_0f7a4_74 : decode cJ6_numberOfTrailingZeros_0f7a4 74 = .ok (.iload_n 1, 1) := by decide +kernel
theorem dJ6_numberOfTrailingZeros_0f7a4_75 : decode cJ6_numberOfTrailingZeros_0f7a4 75 = .ok (.iload_n 0, 1) := by decide +kernel
theorem dJ6_numberOfTrailingZeros_0f7a4_76 : decode cJ6_numberOfTrailingZeros_0f7a4 76 = .ok (.iconst 1, 1) := by decide +kernel
theorem dJ6_numberOfTrailingZeros_0f7a4_77 : decode cJ6_numberOfTrailingZeros_0f7a4 77 = .ok (.iushr, 1) := by decide +kernel
theorem dJ6_numberOfTrailingZeros_0f7a4_78 : decode cJ6_numberOfTrailingZeros_0f7a4 78 = .ok (.iadd, 1) := by decide +kernel
theorem dJ6_numberOfTrailingZeros_0f7a4_79 : decode cJ6_numberOfTrailingZeros_0f7a4 79 = .ok (.ireturn, 1) := by decide +kernel
def bJ6_numberOfTrailingZeros_0f7a4_0 (l : Launch) (E : Ev) (d : Nat) (Q : Option Value → Hp → Prop) : Kt := k_iload 0 (k_push (.int (-1)) (k_ixor (k_iload 0 (k_push (.int 1) (k_isub (k_iand (k_istore 0 (k_iload 0 (k_if_gt (k_push (.int 1) (k_istore 1 (k_iload 0 (k_push (.int 65536) (k_icmp_le (Go l E YJ6_numberOfTrailingZeros_0f7a4 (d + 1) 0 0 Q 0 0 34) (k_iinc 1 16 (k_iload 0 (k_push (.int 16) (k_iushr (k_istore 0 (Go l E YJ6_numberOfTrailingZeros_0f7a4 (d + 1) 0 0 Q 0 0 34))))))))))) (k_iload 0 (k_push (.int 32) (k_iand (k_iret .int Q)))))))))))))
set_option maxRecDepth 100000 in
set_option maxHeartbeats 4000000 in
theorem gJ6_numberOfTrailingZeros_0f7a4_0 {l : Launch} {E : Ev} {d : Nat} {Q : Option Value → Hp → Prop} {ls : Lv} {st : List Value} {h : Hp} (hB : bJ6_numberOfTrailingZeros_0f7a4_0 l E d Q ls st h) : Go l E YJ6_numberOfTrailingZeros_0f7a4 (d + 1) 0 0 Q 0 0 0 ls st h :=
  (sd_iload_n (i := 0) rfl dJ6_numberOfTrailingZeros_0f7a4_0 (sd_iconst (v := (-1)) (by decide) dJ6_numberOfTrailingZeros_0f7a4_1 (sd_ixor dJ6_numberOfTrailingZeros_0f7a4_2 (sd_iload_n (i := 0) rfl dJ6_numberOfTrailingZeros_0f7a4_3 (sd_iconst (v := 1) (by decide) dJ6_numberOfTrailingZeros_0f7a4_4 (sd_isub dJ6_numberOfTrailingZeros_0f7a4_5 (sd_iand dJ6_numberOfTrailingZeros_0f7a4_6 (sd_istore_n (i := 0) rfl (by decide) dJ6_numberOfTrailingZeros_0f7a4_7 (sd_iload_n (i := 0) rfl dJ6_numberOfTrailingZeros_0f7a4_8 (sd_if_gt (tgt := 17) (by decide) dJ6_numberOfTrailingZeros_0f7a4_9 (sd_iconst (v := 1) (by decide) dJ6_numberOfTrailingZeros_0f7a4_17 (sd_istore_n (i := 1) rfl (by decide) dJ6_numberOfTrailingZeros_0f7a4_18 (sd_iload_n (i := 0) rfl dJ6_numberOfTrailingZeros_0f7a4_19 (sd_ldcw (v := 65536) mw_832 dJ6_numberOfTrailingZeros_0f7a4_20 (sd_icmp_le (tgt := 34) (by decide) dJ6_numberOfTrailingZeros_0f7a4_23 (Sd.go) (sd_iinc (i := 1) (v := 16) (by decide) (by decide) dJ6_numberOfTrailingZeros_0f7a4_26 (sd_iload_n (i := 0) rfl dJ6_numberOfTrailingZeros_0f7a4_29 (sd_bipush (v := 16) (by decide) dJ6_numberOfTrailingZeros_0f7a4_30 (sd_iushr dJ6_numberOfTrailingZeros_0f7a4_32 (sd_istore_n (i := 0) rfl (by decide) dJ6_numberOfTrailingZeros_0f7a4_33 (Sd.go))))))))))) (sd_iload_n (i := 0) rfl dJ6_numberOfTrailingZeros_0f7a4_12 (sd_bipush (v := 32) (by decide) dJ6_numberOfTrailingZeros_0f7a4_13 (sd_iand dJ6_numberOfTrailingZeros_0f7a4_15 (sd_iret (ty := .int) rfl (by decide) (by decide) dJ6_numberOfTrailingZeros_0f7a4_16))))))))))))) : Sd l E YJ6_numberOfTrailingZeros_0f7a4 (d + 1) 0 0 Q 0 0 0 (bJ6_numberOfTrailingZeros_0f7a4_0 l E d Q)) ls st h hB
def bJ6_numberOfTrailingZeros_0f7a4_34 (l : Launch) (E : Ev) (d : Nat) (Q : Option Value → Hp → Prop) : Kt := k_iload 0 (k_push (.int 256) (k_icmp_le (Go l E YJ6_numberOfTrailingZeros_0f7a4 (d + 1) 0 0 Q 0 0 49) (k_iinc 1 8 (k_iload 0 (k_push (.int 8) (k_iushr (k_istore 0 (Go l E YJ6_numberOfTrailingZeros_0f7a4 (d + 1) 0 0 Q 0 0 49))))))))
set_option maxRecDepth 100000 in
set_option maxHeartbeats 4000000 in
theorem gJ6_numberOfTrailingZeros_0f7a4_34 {l : Launch} {E : Ev} {d : Nat} {Q : Option Value → Hp → Prop} {ls : Lv} {st : List Value} {h : Hp} (hB : bJ6_numberOfTrailingZeros_0f7a4_34 l E d Q ls st h) : Go l E YJ6_numberOfTrailingZeros_0f7a4 (d + 1) 0 0 Q 0 0 34 ls st h :=
  (sd_iload_n (i := 0) rfl dJ6_numberOfTrailingZeros_0f7a4_34 (sd_sipush (v := 256) (by decide) dJ6_numberOfTrailingZeros_0f7a4_35 (sd_icmp_le (tgt := 49) (by decide) dJ6_numberOfTrailingZeros_0f7a4_38 (Sd.go) (sd_iinc (i := 1) (v := 8) (by decide) (by decide) dJ6_numberOfTrailingZeros_0f7a4_41 (sd_iload_n (i := 0) rfl dJ6_numberOfTrailingZeros_0f7a4_44 (sd_bipush (v := 8) (by decide) dJ6_numberOfTrailingZeros_0f7a4_45 (sd_iushr dJ6_numberOfTrailingZeros_0f7a4_47 (sd_istore_n (i := 0) rfl (by decide) dJ6_numberOfTrailingZeros_0f7a4_48 (Sd.go)))))))) : Sd l E YJ6_numberOfTrailingZeros_0f7a4 (d + 1) 0 0 Q 0 0 34 (bJ6_numberOfTrailingZeros_0f7a4_34 l E d Q)) ls st h hB
def bJ6_numberOfTrailingZeros_0f7a4_49 (l : Launch) (E : Ev) (d : Nat) (Q : Option Value → Hp → Prop) : Kt := k_iload 0 (k_push (.int 16) (k_icmp_le (Go l E YJ6_numberOfTrailingZeros_0f7a4 (d + 1) 0 0 Q 0 0 62) (k_iinc 1 4 (k_iload 0 (k_push (.int 4) (k_iushr (k_istore 0 (Go l E YJ6_numberOfTrailingZeros_0f7a4 (d + 1) 0 0 Q 0 0 62))))))))
set_option maxRecDepth 100000 in
set_option maxHeartbeats 4000000 in
theorem gJ6_numberOfTrailingZeros_0f7a4_49 {l : Launch} {E : Ev} {d : Nat} {Q : Option Value → Hp → Prop} {ls : Lv} {st : List Value} {h : Hp} (hB : bJ6_numberOfTrailingZeros_0f7a4_49 l E d Q ls st h) : Go l E YJ6_numberOfTrailingZeros_0f7a4 (d + 1) 0 0 Q 0 0 49 ls st h :=
  (sd_iload_n (i := 0) rfl dJ6_numberOfTrailingZeros_0f7a4_49 (sd_bipush (v := 16) (by decide) dJ6_numberOfTrailingZeros_0f7a4_50 (sd_icmp_le (tgt := 62) (by decide) dJ6_numberOfTrailingZeros_0f7a4_52 (Sd.go) (sd_iinc (i := 1) (v := 4) (by decide) (by decide) dJ6_numberOfTrailingZeros_0f7a4_55 (sd_iload_n (i := 0) rfl dJ6_numberOfTrailingZeros_0f7a4_58 (sd_iconst (v := 4) (by decide) dJ6_numberOfTrailingZeros_0f7a4_59 (sd_iushr dJ6_numberOfTrailingZeros_0f7a4_60 (sd_istore_n (i := 0) rfl (by decide) dJ6_numberOfTrailingZeros_0f7a4_61 (Sd.go)))))))) : Sd l E YJ6_numberOfTrailingZeros_0f7a4 (d + 1) 0 0 Q 0 0 49 (bJ6_numberOfTrailingZeros_0f7a4_49 l E d Q)) ls st h hB
def bJ6_numberOfTrailingZeros_0f7a4_62 (l : Launch) (E : Ev) (d : Nat) (Q : Option Value → Hp → Prop) : Kt := k_iload 0 (k_push (.int 4) (k_icmp_le (k_iload 1 (k_iload 0 (k_push (.int 1) (k_iushr (k_iadd (k_iret .int Q)))))) (k_iinc 1 2 (k_iload 0 (k_push (.int 2) (k_iushr (k_istore 0 (k_iload 1 (k_iload 0 (k_push (.int 1) (k_iushr (k_iadd (k_iret .int Q)))))))))))))
set_option maxRecDepth 100000 in
set_option maxHeartbeats 4000000 in
theorem gJ6_numberOfTrailingZeros_0f7a4_62 {l : Launch} {E : Ev} {d : Nat} {Q : Option Value → Hp → Prop} {ls : Lv} {st : List Value} {h : Hp} (hB : bJ6_numberOfTrailingZeros_0f7a4_62 l E d Q ls st h) : Go l E YJ6_numberOfTrailingZeros_0f7a4 (d + 1) 0 0 Q 0 0 62 ls st h :=
  (sd_iload_n (i := 0) rfl dJ6_numberOfTrailingZeros_0f7a4_62 (sd_iconst (v := 4) (by decide) dJ6_numberOfTrailingZeros_0f7a4_63 (sd_icmp_le (tgt := 74) (by decide) dJ6_numberOfTrailingZeros_0f7a4_64 (sd_iload_n (i := 1) rfl dJ6_numberOfTrailingZeros_0f7a4_74 (sd_iload_n (i := 0) rfl dJ6_numberOfTrailingZeros_0f7a4_75 (sd_iconst (v := 1) (by decide) dJ6_numberOfTrailingZeros_0f7a4_76 (sd_iushr dJ6_numberOfTrailingZeros_0f7a4_77 (sd_iadd dJ6_numberOfTrailingZeros_0f7a4_78 (sd_iret (ty := .int) rfl (by decide) (by decide) dJ6_numberOfTrailingZeros_0f7a4_79)))))) (sd_iinc (i := 1) (v := 2) (by decide) (by decide) dJ6_numberOfTrailingZeros_0f7a4_67 (sd_iload_n (i := 0) rfl dJ6_numberOfTrailingZeros_0f7a4_70 (sd_iconst (v := 2) (by decide) dJ6_numberOfTrailingZeros_0f7a4_71 (sd_iushr dJ6_numberOfTrailingZeros_0f7a4_72 (sd_istore_n (i := 0) rfl (by decide) dJ6_numberOfTrailingZeros_0f7a4_73 (sd_iload_n (i := 1) rfl dJ6_numberOfTrailingZeros_0f7a4_74 (sd_iload_n (i := 0) rfl dJ6_numberOfTrailingZeros_0f7a4_75 (sd_iconst (v := 1) (by decide) dJ6_numberOfTrailingZeros_0f7a4_76 (sd_iushr dJ6_numberOfTrailingZeros_0f7a4_77 (sd_iadd dJ6_numberOfTrailingZeros_0f7a4_78 (sd_iret (ty := .int) rfl (by decide) (by decide) dJ6_numberOfTrailingZeros_0f7a4_79))))))))))))) : Sd l E YJ6_numberOfTrailingZeros_0f7a4 (d + 1) 0 0 Q 0 0 62 (bJ6_numberOfTrailingZeros_0f7a4_62 l E d Q)) ls st h hB
theorem eJ6_numberOfTrailingZeros_0f7a4 {l : Launch} {E : Ev} {d : Nat} {Q : Option Value → Hp → Prop} {h : Hp} {x1 : Int32} (hk : Go l E YJ6_numberOfTrailingZeros_0f7a4 d 0 0 Q 0 0 0 [some (.int x1), none] [] h) : GoM l E YJ6_numberOfTrailingZeros_0f7a4 d 0 0 [.int x1] h Q := GoM.of (by decide +kernel) rfl (by simp [entA, YJ6_numberOfTrailingZeros_0f7a4]) hk
theorem dJ6_bitCount_0f7a4_0 : decode cJ6_bitCount_0f7a4 0 = .ok (.iload_n 0, 1) := by decide +kernel
theorem dJ6_bitCount_0f7a4_1 : decode cJ6_bitCount_0f7a4 1 = .ok (.iload_n 0, 1) := by decide +kernel
theorem dJ6_bitCount_0f7a4_2 : decode cJ6_bitCount_0f7a4 2 = .ok (.iconst 1, 1) := by decide +kernel
theorem dJ6_bitCount_0f7a4_3 : decode cJ6_bitCount_0f7a4 3 = .ok (.iushr, 1) := by decide +kernel
theorem dJ6_bitCount_0f7a4_4 : decode cJ6_bitCount_0f7a4 4 = .ok (.ldc_w 265, 3) := by decide +kernel
theorem dJ6_bitCount_0f7a4_7 : decode cJ6_bitCount_0f7a4 7 = .ok (.iand, 1) := by decide +kernel
theorem dJ6_bitCount_0f7a4_8 : decode cJ6_bitCount_0f7a4 8 = .ok (.isub, 1) := by decide +kernel
theorem dJ6_bitCount_0f7a4_9 : decode cJ6_bitCount_0f7a4 9 = .ok (.istore_n 0, 1) := by decide +kernel
theorem dJ6_bitCount_0f7a4_10 : decode cJ6_bitCount_0f7a4 10 = .ok (.iload_n 0, 1) := by decide +kernel
theorem dJ6_bitCount_0f7a4_11 : decode cJ6_bitCount_0f7a4 11 = .ok (.ldc_w 266, 3) := by decide +kernel
theorem dJ6_bitCount_0f7a4_14 : decode cJ6_bitCount_0f7a4 14 = .ok (.iand, 1) := by decide +kernel
theorem dJ6_bitCount_0f7a4_15 : decode cJ6_bitCount_0f7a4 15 = .ok (.iload_n 0, 1) := by decide +kernel
theorem dJ6_bitCount_0f7a4_16 : decode cJ6_bitCount_0f7a4 16 = .ok (.iconst 2, 1) := by decide +kernel
theorem dJ6_bitCount_0f7a4_17 : decode cJ6_bitCount_0f7a4 17 = .ok (.iushr, 1) := by decide +kernel
theorem dJ6_bitCount_0f7a4_18 : decode cJ6_bitCount_0f7a4 18 = .ok (.ldc_w 266, 3) := by decide +kernel
theorem dJ6_bitCount_0f7a4_21 : decode cJ6_bitCount_0f7a4 21 = .ok (.iand, 1) := by decide +kernel
theorem dJ6_bitCount_0f7a4_22 : decode cJ6_bitCount_0f7a4 22 = .ok (.iadd, 1) := by decide +kernel
theorem dJ6_bitCount_0f7a4_23 : decode cJ6_bitCount_0f7a4 23 = .ok (.istore_n 0, 1) := by decide +kernel
theorem dJ6_bitCount_0f7a4_24 : decode cJ6_bitCount_0f7a4 24 = .ok (.iload_n 0, 1) := by decide +kernel
theorem dJ6_bitCount_0f7a4_25 : decode cJ6_bitCount_0f7a4 25 = .ok (.iload_n 0, 1) := by decide +kernel
theorem dJ6_bitCount_0f7a4_26 : decode cJ6_bitCount_0f7a4 26 = .ok (.iconst 4, 1) := by decide +kernel
theorem dJ6_bitCount_0f7a4_27 : decode cJ6_bitCount_0f7a4 27 = .ok (.iushr, 1) := by decide +kernel
theorem dJ6_bitCount_0f7a4_28 : decode cJ6_bitCount_0f7a4 28 = .ok (.iadd, 1) := by decide +kernel
theorem dJ6_bitCount_0f7a4_29 : decode cJ6_bitCount_0f7a4 29 = .ok (.ldc_w 267, 3) := by decide +kernel
theorem dJ6_bitCount_0f7a4_32 : decode cJ6_bitCount_0f7a4 32 = .ok (.iand, 1) := by decide +kernel
theorem dJ6_bitCount_0f7a4_33 : decode cJ6_bitCount_0f7a4 33 = .ok (.istore_n 0, 1) := by decide +kernel
theorem dJ6_bitCount_0f7a4_34 : decode cJ6_bitCount_0f7a4 34 = .ok (.iload_n 0, 1) := by decide +kernel
theorem dJ6_bitCount_0f7a4_35 : decode cJ6_bitCount_0f7a4 35 = .ok (.iload_n 0, 1) := by decide +kernel
theorem dJ6_bitCount_0f7a4_36 : decode cJ6_bitCount_0f7a4 36 = .ok (.bipush 8, 2) := by decide +kernel
theorem dJ6_bitCount_0f7a4_38 : decode cJ6_bitCount_0f7a4 38 = .ok (.iushr, 1) := by decide +kernel
theorem dJ6_bitCount_0f7a4_39 : decode cJ6_bitCount_0f7a4 39 = .ok (.iadd, 1) := by decide +kernel
theorem dJ6_bitCount_0f7a4_40 : decode cJ6_bitCount_0f7a4 40 = .ok (.istore_n 0, 1) := by decide +kernel
theorem dJ6_bitCount_0f7a4_41 : decode cJ6_bitCount_0f7a4 41 = .ok (.iload_n 0, 1) := by decide +kernel
theorem dJ6_bitCount_0f7a4_42 : decode cJ6_bitCount_0f7a4 42 = .ok (.iload_n 0, 1) := by decide +kernel
theorem dJ6_bitCount_0f7a4_43 : decode cJ6_bitCount_0f7a4 43 = .ok (.bipush 16, 2) := by decide +kernel
theorem dJ6_bitCount_0f7a4_45 : decode cJ6_bitCount_0f7a4 45 = .ok (.iushr, 1) := by decide +kernel
theorem dJ6_bitCount_0f7a4_46 : decode cJ6_bitCount_0f7a4 46 = .ok (.iadd, 1) := by decide +kernel
theorem dJ6_bitCount_0f7a4_47 : decode cJ6_bitCount_0f7a4 47 = .ok (.istore_n 0, 1) := by decide +kernel
theorem dJ6_bitCount_0f7a4_48 : decode cJ6_bitCount_0f7a4 48 = .ok (.iload_n 0, 1) := by decide +kernel
theorem dJ6_bitCount_0f7a4_49 : decode cJ6_bitCount_0f7a4 49 = .ok (.bipush 63, 2) := by decide +kernel
theorem dJ6_bitCount_0f7a4_51 : decode cJ6_bitCount_0f7a4 51 = .ok (.iand, 1) := by decide +kernel
theorem dJ6_bitCount_0f7a4_52 : decode cJ6_bitCount_0f7a4 52 = .ok (.ireturn, 1) := by decide +kernel
def bJ6_bitCount_0f7a4_0 (l : Launch) (E : Ev) (d : Nat) (Q : Option Value → Hp → Prop) : Kt := k_iload 0 (k_iload 0 (k_push (.int 1) (k_iushr (k_push (.int 1431655765) (k_iand (k_isub (k_istore 0 (k_iload 0 (k_push (.int 858993459) (k_iand (k_iload 0 (k_push (.int 2) (k_iushr (k_push (.int 858993459) (k_iand (k_iadd (k_istore 0 (k_iload 0 (k_iload 0 (k_push (.int 4) (k_iushr (k_iadd (k_push (.int 252645135) (k_iand (k_istore 0 (k_iload 0 (k_iload 0 (k_push (.int 8) (k_iushr (k_iadd (k_istore 0 (k_iload 0 (k_iload 0 (k_push (.int 16) (k_iushr (k_iadd (k_istore 0 (k_iload 0 (k_push (.int 63) (k_iand (k_iret .int Q)))))))))))))))))))))))))))))))))))))))))
set_option maxRecDepth 100000 in
set_option maxHeartbeats 4000000 in
theorem gJ6_bitCount_0f7a4_0 {l : Launch} {E : Ev} {d : Nat} {Q : Option Value → Hp → Prop} {ls : Lv} {st : List Value} {h : Hp} (hB : bJ6_bitCount_0f7a4_0 l E d Q ls st h) : Go l E YJ6_bitCount_0f7a4 (d + 1) 0 0 Q 0 0 0 ls st h :=
  (sd_iload_n (i := 0) rfl dJ6_bitCount_0f7a4_0 (sd_iload_n (i := 0) rfl dJ6_bitCount_0f7a4_1 (sd_iconst (v := 1) (by decide) dJ6_bitCount_0f7a4_2 (sd_iushr dJ6_bitCount_0f7a4_3 (sd_ldcw (v := 1431655765) mw_977 dJ6_bitCount_0f7a4_4 (sd_iand dJ6_bitCount_0f7a4_7 (sd_isub dJ6_bitCount_0f7a4_8 (sd_istore_n (i := 0) rfl (by decide) dJ6_bitCount_0f7a4_9 (sd_iload_n (i := 0) rfl dJ6_bitCount_0f7a4_10 (sd_ldcw (v := 858993459) mw_978 dJ6_bitCount_0f7a4_11 (sd_iand dJ6_bitCount_0f7a4_14 (sd_iload_n (i := 0) rfl dJ6_bitCount_0f7a4_15 (sd_iconst (v := 2) (by decide) dJ6_bitCount_0f7a4_16 (sd_iushr dJ6_bitCount_0f7a4_17 (sd_ldcw (v := 858993459) mw_978 dJ6_bitCount_0f7a4_18 (sd_iand dJ6_bitCount_0f7a4_21 (sd_iadd dJ6_bitCount_0f7a4_22 (sd_istore_n (i := 0) rfl (by decide) dJ6_bitCount_0f7a4_23 (sd_iload_n (i := 0) rfl dJ6_bitCount_0f7a4_24 (sd_iload_n (i := 0) rfl dJ6_bitCount_0f7a4_25 (sd_iconst (v := 4) (by decide) dJ6_bitCount_0f7a4_26 (sd_iushr dJ6_bitCount_0f7a4_27 (sd_iadd dJ6_bitCount_0f7a4_28 (sd_ldcw (v := 252645135) mw_979 dJ6_bitCount_0f7a4_29 (sd_iand dJ6_bitCount_0f7a4_32 (sd_istore_n (i := 0) rfl (by decide) dJ6_bitCount_0f7a4_33 (sd_iload_n (i := 0) rfl dJ6_bitCount_0f7a4_34 (sd_iload_n (i := 0) rfl dJ6_bitCount_0f7a4_35 (sd_bipush (v := 8) (by decide) dJ6_bitCount_0f7a4_36 (sd_iushr dJ6_bitCount_0f7a4_38 (sd_iadd dJ6_bitCount_0f7a4_39 (sd_istore_n (i := 0) rfl (by decide) dJ6_bitCount_0f7a4_40 (sd_iload_n (i := 0) rfl dJ6_bitCount_0f7a4_41 (sd_iload_n (i := 0) rfl dJ6_bitCount_0f7a4_42 (sd_bipush (v := 16) (by decide) dJ6_bitCount_0f7a4_43 (sd_iushr dJ6_bitCount_0f7a4_45 (sd_iadd dJ6_bitCount_0f7a4_46 (sd_istore_n (i := 0) rfl (by decide) dJ6_bitCount_0f7a4_47 (sd_iload_n (i := 0) rfl dJ6_bitCount_0f7a4_48 (sd_bipush (v := 63) (by decide) dJ6_bitCount_0f7a4_49 (sd_iand dJ6_bitCount_0f7a4_51 (sd_iret (ty := .int) rfl (by decide) (by decide) dJ6_bitCount_0f7a4_52))))))))))))))))))))))))))))))))))))))))) : Sd l E YJ6_bitCount_0f7a4 (d + 1) 0 0 Q 0 0 0 (bJ6_bitCount_0f7a4_0 l E d Q)) ls st h hB
theorem eJ6_bitCount_0f7a4 {l : Launch} {E : Ev} {d : Nat} {Q : Option Value → Hp → Prop} {h : Hp} {x1 : Int32} (hk : Go l E YJ6_bitCount_0f7a4 d 0 0 Q 0 0 0 [some (.int x1)] [] h) : GoM l E YJ6_bitCount_0f7a4 d 0 0 [.int x1] h Q := GoM.of (by decide +kernel) rfl (by simp [entA, YJ6_bitCount_0f7a4]) hk
theorem dJ13_compare_74951_0 : decode cJ13_compare_74951 0 = .ok (.lload_n 0, 1) := by decide +kernel
theorem dJ13_compare_74951_1 : decode cJ13_compare_74951 1 = .ok (.lload_n 2, 1) := by decide +kernel
theorem dJ13_compare_74951_2 : decode cJ13_compare_74951 2 = .ok (.lcmp, 1) := by decide +kernel
theorem dJ13_compare_74951_3 : decode cJ13_compare_74951 3 = .ok (.ifCond .ge 7, 3) := by decide +kernel
theorem dJ13_compare_74951_6 : decode cJ13_compare_74951 6 = .ok (.iconst (-1), 1) := by decide +kernel
theorem dJ13_compare_74951_7 : decode cJ13_compare_74951 7 = .ok (.goto 14, 3) := by decide +kernel
theorem dJ13_compare_74951_10 : decode cJ13_compare_74951 10 = .ok (.lload_n 0, 1) := by decide +kernel
theorem dJ13_compare_74951_11 : decode cJ13_compare_74951 11 = .ok (.lload_n 2, 1) := by decide +kernel
theorem dJ13_compare_74951_12 : decode cJ13_compare_74951 12 = .ok (.lcmp, 1) := by decide +kernel
theorem dJ13_compare_74951_13 : decode cJ13_compare_74951 13 = .ok (.ifCond .ne 7, 3) := by decide +kernel
theorem dJ13_compare_74951_16 : decode cJ13_compare_74951 16 = .ok (.iconst 0, 1) := by decide +kernel
theorem dJ13_compare_74951_17 : decode cJ13_compare_74951 17 = .ok (.goto 4, 3) := by decide +kernel
theorem dJ13_compare_74951_20 : decode cJ13_compare_74951 20 = .ok (.iconst 1, 1) := by decide +kernel
theorem dJ13_compare_74951_21 : decode cJ13_compare_74951 21 = .ok (.ireturn, 1) := by decide +kernel
def bJ13_compare_74951_0 (l : Launch) (E : Ev) (d : Nat) (Q : Option Value → Hp → Prop) : Kt := k_lload 0 (k_lload 2 (k_lcmp (k_if_ge (k_lload 0 (k_lload 2 (k_lcmp (k_if_ne (k_push (.int 1) (k_iret .int Q)) (k_push (.int 0) (k_iret .int Q)))))) (k_push (.int (-1)) (k_iret .int Q)))))
set_option maxRecDepth 100000 in
set_option maxHeartbeats 4000000 in
theorem gJ13_compare_74951_0 {l : Launch} {E : Ev} {d : Nat} {Q : Option Value → Hp → Prop} {ls : Lv} {st : List Value} {h : Hp} (hB : bJ13_compare_74951_0 l E d Q ls st h) : Go l E YJ13_compare_74951 (d + 1) 0 0 Q 0 0 0 ls st h :=
  (sd_lload_n (i := 0) rfl dJ13_compare_74951_0 (sd_lload_n (i := 2) rfl dJ13_compare_74951_1 (sd_lcmp dJ13_compare_74951_2 (sd_if_ge (tgt := 10) (by decide) dJ13_compare_74951_3 (sd_lload_n (i := 0) rfl dJ13_compare_74951_10 (sd_lload_n (i := 2) rfl dJ13_compare_74951_11 (sd_lcmp dJ13_compare_74951_12 (sd_if_ne (tgt := 20) (by decide) dJ13_compare_74951_13 (sd_iconst (v := 1) (by decide) dJ13_compare_74951_20 (sd_iret (ty := .int) rfl (by decide) (by decide) dJ13_compare_74951_21)) (sd_iconst (v := 0) (by decide) dJ13_compare_74951_16 (sd_goto (tgt := 21) (by decide) dJ13_compare_74951_17 (sd_iret (ty := .int) rfl (by decide) (by decide) dJ13_compare_74951_21))))))) (sd_iconst (v := (-1)) (by decide) dJ13_compare_74951_6 (sd_goto (tgt := 21) (by decide) dJ13_compare_74951_7 (sd_iret (ty := .int) rfl (by decide) (by decide) dJ13_compare_74951_21)))))) : Sd l E YJ13_compare_74951 (d + 1) 0 0 Q 0 0 0 (bJ13_compare_74951_0 l E d Q)) ls st h hB
theorem eJ13_compare_74951 {l : Launch} {E : Ev} {d : Nat} {Q : Option Value → Hp → Prop} {h : Hp} {x1 : Int64} {x2 : Int64} (hk : Go l E YJ13_compare_74951 d 0 0 Q 0 0 0 [some (.long x1), none, some (.long x2), none] [] h) : GoM l E YJ13_compare_74951 d 0 0 [.long x1, .long x2] h Q := GoM.of (by decide +kernel) rfl (by simp [entA, YJ13_compare_74951]) hk
theorem dJ0_charAt_5068e_0 : decode cJ0_charAt_5068e 0 = .ok (.aload_n 0, 1) := by decide +kernel
theorem dJ0_charAt_5068e_1 : decode cJ0_charAt_5068e 1 = .ok (.invokevirtual 492, 3) := by decide +kernel
theorem dJ0_charAt_5068e_4 : decode cJ0_charAt_5068e 4 = .ok (.ifCond .eq 12, 3) := by decide +kernel
theorem dJ0_charAt_5068e_7 : decode cJ0_charAt_5068e 7 = .ok (.aload_n 0, 1) := by decide +kernel
theorem dJ0_charAt_5068e_8 : decode cJ0_charAt_5068e 8 = .ok (.getfield 9, 3) := by decide +kernel
theorem dJ0_charAt_5068e_11 : decode cJ0_charAt_5068e 11 = .ok (.iload_n 1, 1) := by decide +kernel
theorem dJ0_charAt_5068e_12 : decode cJ0_charAt_5068e 12 = .ok (.invokestatic 495, 3) := by decide +kernel
theorem dJ0_charAt_5068e_15 : decode cJ0_charAt_5068e 15 = .ok (.ireturn, 1) := by decide +kernel
theorem dJ0_charAt_5068e_16 : decode cJ0_charAt_5068e 16 = .ok (.aload_n 0, 1) := by decide +kernel
theorem dJ0_charAt_5068e_17 : decode cJ0_charAt_5068e 17 = .ok (.getfield 9, 3) := by decide +kernel
theorem dJ0_charAt_5068e_20 : decode cJ0_charAt_5068e 20 = .ok (.iload_n 1, 1) := by decide +kernel
def bJ0_charAt_5068e_0 (l : Launch) (E : Ev) (d : Nat) (Q : Option Value → Hp → Prop) : Kt := k_aload 0 (k_callT l E YJ0_isLatin1_aae02 d 0 0 0 (k_if_eq (k_aload 0 (k_value (k_iload 1 (fun _ _ _ => False)))) (k_aload 0 (k_value (k_iload 1 (k_callS l E YJ1_charAt_3b067 d 0 0 2 (k_iret .char Q)))))))
set_option maxRecDepth 100000 in
set_option maxHeartbeats 4000000 in
theorem gJ0_charAt_5068e_0 {l : Launch} {E : Ev} {d : Nat} {Q : Option Value → Hp → Prop} {ls : Lv} {st : List Value} {h : Hp} (hB : bJ0_charAt_5068e_0 l E d Q ls st h) : Go l E YJ0_charAt_5068e (d + 1) 0 0 Q 0 0 0 ls st h :=
  (sd_aload_n (i := 0) rfl dJ0_charAt_5068e_0 (sd_callT (Y' := YJ0_isLatin1_aae02) (mc' := 0) (ms' := 0) (n := 0) mw_658 mw_659 mw_660 mw_111 mw_661 rfl (okmJ0_isLatin1_aae02) (by decide) (Nat.le_refl _) (by decide) (by decide) dJ0_charAt_5068e_1 (sd_if_eq (tgt := 16) (by decide) dJ0_charAt_5068e_4 (sd_aload_n (i := 0) rfl dJ0_charAt_5068e_16 (sd_value mw_1795 dJ0_charAt_5068e_17 (sd_iload_n (i := 1) rfl dJ0_charAt_5068e_20 (k_no_sd)))) (sd_aload_n (i := 0) rfl dJ0_charAt_5068e_7 (sd_value mw_1795 dJ0_charAt_5068e_8 (sd_iload_n (i := 1) rfl dJ0_charAt_5068e_11 (sd_callS (Y' := YJ1_charAt_3b067) (mc' := 0) (ms' := 0) (n := 2) mw_664 mw_665 mw_112 mw_666 (okmJ1_charAt_3b067) (by decide) (Nat.le_refl _) (by decide) (by decide) dJ0_charAt_5068e_12 (sd_iret (ty := .char) rfl (by decide) (by decide) dJ0_charAt_5068e_15))))))) : Sd l E YJ0_charAt_5068e (d + 1) 0 0 Q 0 0 0 (bJ0_charAt_5068e_0 l E d Q)) ls st h hB
theorem eJ0_charAt_5068e {l : Launch} {E : Ev} {d : Nat} {Q : Option Value → Hp → Prop} {h : Hp} {a0 : Nat} {x1 : Int32} (hk : Go l E YJ0_charAt_5068e d 0 0 Q 0 0 0 [some (.ref a0), some (.int x1)] [] h) : GoM l E YJ0_charAt_5068e d 0 0 [.ref a0, .int x1] h Q := GoM.of (by decide +kernel) rfl (by simp [entA, YJ0_charAt_5068e]) hk
theorem dJ0_isLatin1_aae02_0 : decode cJ0_isLatin1_aae02 0 = .ok (.getstatic 38, 3) := by decide +kernel
theorem dJ0_isLatin1_aae02_3 : decode cJ0_isLatin1_aae02 3 = .ok (.ifCond .eq 14, 3) := by decide +kernel
theorem dJ0_isLatin1_aae02_6 : decode cJ0_isLatin1_aae02 6 = .ok (.aload_n 0, 1) := by decide +kernel
theorem dJ0_isLatin1_aae02_7 : decode cJ0_isLatin1_aae02 7 = .ok (.getfield 15, 3) := by decide +kernel
theorem dJ0_isLatin1_aae02_10 : decode cJ0_isLatin1_aae02 10 = .ok (.ifCond .ne 7, 3) := by decide +kernel
theorem dJ0_isLatin1_aae02_13 : decode cJ0_isLatin1_aae02 13 = .ok (.iconst 1, 1) := by decide +kernel
theorem dJ0_isLatin1_aae02_14 : decode cJ0_isLatin1_aae02 14 = .ok (.goto 4, 3) := by decide +kernel
theorem dJ0_isLatin1_aae02_17 : decode cJ0_isLatin1_aae02 17 = .ok (.iconst 0, 1) := by decide +kernel
theorem dJ0_isLatin1_aae02_18 : decode cJ0_isLatin1_aae02 18 = .ok (.ireturn, 1) := by decide +kernel
def bJ0_isLatin1_aae02_0 (l : Launch) (E : Ev) (d : Nat) (Q : Option Value → Hp → Prop) : Kt := k_getsC (k_if_eq (k_push (.int 0) (k_iret .boolean Q)) (k_aload 0 (k_coder (k_if_ne (k_push (.int 0) (k_iret .boolean Q)) (k_push (.int 1) (k_iret .boolean Q))))))
set_option maxRecDepth 100000 in
set_option maxHeartbeats 4000000 in
theorem gJ0_isLatin1_aae02_0 {l : Launch} {E : Ev} {d : Nat} {Q : Option Value → Hp → Prop} {ls : Lv} {st : List Value} {h : Hp} (hB : bJ0_isLatin1_aae02_0 l E d Q ls st h) : Go l E YJ0_isLatin1_aae02 (d + 1) 0 0 Q 0 0 0 ls st h :=
  (sd_getsC mw_662 dJ0_isLatin1_aae02_0 (sd_if_eq (tgt := 17) (by decide) dJ0_isLatin1_aae02_3 (sd_iconst (v := 0) (by decide) dJ0_isLatin1_aae02_17 (sd_iret (ty := .boolean) rfl (by decide) (by decide) dJ0_isLatin1_aae02_18)) (sd_aload_n (i := 0) rfl dJ0_isLatin1_aae02_6 (sd_coder mw_1794 dJ0_isLatin1_aae02_7 (sd_if_ne (tgt := 17) (by decide) dJ0_isLatin1_aae02_10 (sd_iconst (v := 0) (by decide) dJ0_isLatin1_aae02_17 (sd_iret (ty := .boolean) rfl (by decide) (by decide) dJ0_isLatin1_aae02_18)) (sd_iconst (v := 1) (by decide) dJ0_isLatin1_aae02_13 (sd_goto (tgt := 18) (by decide) dJ0_isLatin1_aae02_14 (sd_iret (ty := .boolean) rfl (by decide) (by decide) dJ0_isLatin1_aae02_18))))))) : Sd l E YJ0_isLatin1_aae02 (d + 1) 0 0 Q 0 0 0 (bJ0_isLatin1_aae02_0 l E d Q)) ls st h hB
theorem eJ0_isLatin1_aae02 {l : Launch} {E : Ev} {d : Nat} {Q : Option Value → Hp → Prop} {h : Hp} {a0 : Nat} (hk : Go l E YJ0_isLatin1_aae02 d 0 0 Q 0 0 0 [some (.ref a0)] [] h) : GoM l E YJ0_isLatin1_aae02 d 0 0 [.ref a0] h Q := GoM.of (by decide +kernel) rfl (by simp [entA, YJ0_isLatin1_aae02]) hk
theorem dJ0_checkIndex_df160_0 : decode cJ0_checkIndex_df160 0 = .ok (.iload_n 0, 1) := by decide +kernel
theorem dJ0_checkIndex_df160_1 : decode cJ0_checkIndex_df160 1 = .ok (.iload_n 1, 1) := by decide +kernel
theorem dJ0_checkIndex_df160_2 : decode cJ0_checkIndex_df160 2 = .ok (.getstatic 1053, 3) := by decide +kernel
theorem dJ0_checkIndex_df160_5 : decode cJ0_checkIndex_df160 5 = .ok (.invokestatic 1059, 3) := by decide +kernel
theorem dJ0_checkIndex_df160_8 : decode cJ0_checkIndex_df160 8 = .ok (.pop, 1) := by decide +kernel
theorem dJ0_checkIndex_df160_9 : decode cJ0_checkIndex_df160 9 = .ok (.return_, 1) := by decide +kernel
def bJ0_checkIndex_df160_0 (l : Launch) (E : Ev) (d : Nat) (Q : Option Value → Hp → Prop) : Kt := k_iload 0 (k_iload 1 (k_getsF (k_callS l E YJ3_checkIndex_8e157 d 0 0 3 (k_pop (k_vret Q)))))
set_option maxRecDepth 100000 in
set_option maxHeartbeats 4000000 in
theorem gJ0_checkIndex_df160_0 {l : Launch} {E : Ev} {d : Nat} {Q : Option Value → Hp → Prop} {ls : Lv} {st : List Value} {h : Hp} (hB : bJ0_checkIndex_df160_0 l E d Q ls st h) : Go l E YJ0_checkIndex_df160 (d + 1) 0 0 Q 0 0 0 ls st h :=
  (sd_iload_n (i := 0) rfl dJ0_checkIndex_df160_0 (sd_iload_n (i := 1) rfl dJ0_checkIndex_df160_1 (sd_getsF mw_670 dJ0_checkIndex_df160_2 (sd_callS (Y' := YJ3_checkIndex_8e157) (mc' := 0) (ms' := 0) (n := 3) mw_672 mw_673 mw_113 mw_674 (okmJ3_checkIndex_8e157) (by decide) (Nat.le_refl _) (by decide) (by decide) dJ0_checkIndex_df160_5 (sd_pop dJ0_checkIndex_df160_8 (sd_vret rfl (by decide) (by decide) dJ0_checkIndex_df160_9))))) : Sd l E YJ0_checkIndex_df160 (d + 1) 0 0 Q 0 0 0 (bJ0_checkIndex_df160_0 l E d Q)) ls st h hB
theorem eJ0_checkIndex_df160 {l : Launch} {E : Ev} {d : Nat} {Q : Option Value → Hp → Prop} {h : Hp} {x1 : Int32} {x2 : Int32} (hk : Go l E YJ0_checkIndex_df160 d 0 0 Q 0 0 0 [some (.int x1), some (.int x2)] [] h) : GoM l E YJ0_checkIndex_df160 d 0 0 [.int x1, .int x2] h Q := GoM.of (by decide +kernel) rfl (by simp [entA, YJ0_checkIndex_df160]) hk
theorem dJ1_charAt_3b067_0 : decode cJ1_charAt_3b067 0 = .ok (.iload_n 1, 1) := by decide +kernel
theorem dJ1_charAt_3b067_1 : decode cJ1_charAt_3b067 1 = .ok (.aload_n 0, 1) := by decide +kernel
theorem dJ1_charAt_3b067_2 : decode cJ1_charAt_3b067 2 = .ok (.arraylength, 1) := by decide +kernel
theorem dJ1_charAt_3b067_3 : decode cJ1_charAt_3b067 3 = .ok (.invokestatic 9, 3) := by decide +kernel
theorem dJ1_charAt_3b067_6 : decode cJ1_charAt_3b067 6 = .ok (.aload_n 0, 1) := by decide +kernel
theorem dJ1_charAt_3b067_7 : decode cJ1_charAt_3b067 7 = .ok (.iload_n 1, 1) := by decide +kernel
theorem dJ1_charAt_3b067_8 : decode cJ1_charAt_3b067 8 = .ok (.baload, 1) := by decide +kernel
theorem dJ1_charAt_3b067_9 : decode cJ1_charAt_3b067 9 = .ok (.sipush 255, 3) := by decide +kernel
theorem dJ1_charAt_3b067_12 : decode cJ1_charAt_3b067 12 = .ok (.iand, 1) := by decide +kernel
theorem dJ1_charAt_3b067_13 : decode cJ1_charAt_3b067 13 = .ok (.i2c, 1) := by decide +kernel
theorem dJ1_charAt_3b067_14 : decode cJ1_charAt_3b067 14 = .ok (.ireturn, 1) := by decide +kernel
def bJ1_charAt_3b067_0 (l : Launch) (E : Ev) (d : Nat) (Q : Option Value → Hp → Prop) : Kt := k_iload 1 (k_aload 0 (k_blen (k_callS l E YJ0_checkIndex_df160 d 0 0 2 (k_aload 0 (k_iload 1 (k_baload (k_push (.int 255) (k_iand (k_i2c (k_iret .char Q))))))))))
set_option maxRecDepth 100000 in
set_option maxHeartbeats 4000000 in
theorem gJ1_charAt_3b067_0 {l : Launch} {E : Ev} {d : Nat} {Q : Option Value → Hp → Prop} {ls : Lv} {st : List Value} {h : Hp} (hB : bJ1_charAt_3b067_0 l E d Q ls st h) : Go l E YJ1_charAt_3b067 (d + 1) 0 0 Q 0 0 0 ls st h :=
  (sd_iload_n (i := 1) rfl dJ1_charAt_3b067_0 (sd_aload_n (i := 0) rfl dJ1_charAt_3b067_1 (sd_blen dJ1_charAt_3b067_2 (sd_callS (Y' := YJ0_checkIndex_df160) (mc' := 0) (ms' := 0) (n := 2) mw_667 mw_668 mw_111 mw_669 (okmJ0_checkIndex_df160) (by decide) (Nat.le_refl _) (by decide) (by decide) dJ1_charAt_3b067_3 (sd_aload_n (i := 0) rfl dJ1_charAt_3b067_6 (sd_iload_n (i := 1) rfl dJ1_charAt_3b067_7 (sd_baload dJ1_charAt_3b067_8 (sd_sipush (v := 255) (by decide) dJ1_charAt_3b067_9 (sd_iand dJ1_charAt_3b067_12 (sd_i2c dJ1_charAt_3b067_13 (sd_iret (ty := .char) rfl (by decide) (by decide) dJ1_charAt_3b067_14)))))))))) : Sd l E YJ1_charAt_3b067 (d + 1) 0 0 Q 0 0 0 (bJ1_charAt_3b067_0 l E d Q)) ls st h hB
theorem eJ1_charAt_3b067 {l : Launch} {E : Ev} {d : Nat} {Q : Option Value → Hp → Prop} {h : Hp} {x1 : Nat} {x2 : Int32} (hk : Go l E YJ1_charAt_3b067 d 0 0 Q 0 0 0 [some (.ref x1), some (.int x2)] [] h) : GoM l E YJ1_charAt_3b067 d 0 0 [.ref x1, .int x2] h Q := GoM.of (by decide +kernel) rfl (by simp [entA, YJ1_charAt_3b067]) hk
theorem dJ7_rangeCheck_23922_0 : decode cJ7_rangeCheck_23922 0 = .ok (.iload_n 1, 1) := by decide +kernel
theorem dJ7_rangeCheck_23922_1 : decode cJ7_rangeCheck_23922 1 = .ok (.iload_n 2, 1) := by decide +kernel
theorem dJ7_rangeCheck_23922_2 : decode cJ7_rangeCheck_23922 2 = .ok (.if_icmp .le 44, 3) := by decide +kernel
theorem dJ7_rangeCheck_23922_46 : decode cJ7_rangeCheck_23922 46 = .ok (.iload_n 1, 1) := by decide +kernel
theorem dJ7_rangeCheck_23922_47 : decode cJ7_rangeCheck_23922 47 = .ok (.ifCond .ge 12, 3) := by decide +kernel
theorem dJ7_rangeCheck_23922_59 : decode cJ7_rangeCheck_23922 59 = .ok (.iload_n 2, 1) := by decide +kernel
theorem dJ7_rangeCheck_23922_60 : decode cJ7_rangeCheck_23922 60 = .ok (.iload_n 0, 1) := by decide +kernel
theorem dJ7_rangeCheck_23922_61 : decode cJ7_rangeCheck_23922 61 = .ok (.if_icmp .le 12, 3) := by decide +kernel
theorem dJ7_rangeCheck_23922_73 : decode cJ7_rangeCheck_23922 73 = .ok (.return_, 1) := by decide +kernel
def bJ7_rangeCheck_23922_0 (l : Launch) (E : Ev) (d : Nat) (Q : Option Value → Hp → Prop) : Kt := k_iload 1 (k_iload 2 (k_icmp_le (k_iload 1 (k_if_ge (k_iload 2 (k_iload 0 (k_icmp_le (k_vret Q) (fun _ _ _ => False)))) (fun _ _ _ => False))) (fun _ _ _ => False)))
set_option maxRecDepth 100000 in
set_option maxHeartbeats 4000000 in
theorem gJ7_rangeCheck_23922_0 {l : Launch} {E : Ev} {d : Nat} {Q : Option Value → Hp → Prop} {ls : Lv} {st : List Value} {h : Hp} (hB : bJ7_rangeCheck_23922_0 l E d Q ls st h) : Go l E YJ7_rangeCheck_23922 (d + 1) 0 0 Q 0 0 0 ls st h :=
  (sd_iload_n (i := 1) rfl dJ7_rangeCheck_23922_0 (sd_iload_n (i := 2) rfl dJ7_rangeCheck_23922_1 (sd_icmp_le (tgt := 46) (by decide) dJ7_rangeCheck_23922_2 (sd_iload_n (i := 1) rfl dJ7_rangeCheck_23922_46 (sd_if_ge (tgt := 59) (by decide) dJ7_rangeCheck_23922_47 (sd_iload_n (i := 2) rfl dJ7_rangeCheck_23922_59 (sd_iload_n (i := 0) rfl dJ7_rangeCheck_23922_60 (sd_icmp_le (tgt := 73) (by decide) dJ7_rangeCheck_23922_61 (sd_vret rfl (by decide) (by decide) dJ7_rangeCheck_23922_73) (k_no_sd)))) (k_no_sd))) (k_no_sd))) : Sd l E YJ7_rangeCheck_23922 (d + 1) 0 0 Q 0 0 0 (bJ7_rangeCheck_23922_0 l E d Q)) ls st h hB
theorem eJ7_rangeCheck_23922 {l : Launch} {E : Ev} {d : Nat} {Q : Option Value → Hp → Prop} {h : Hp} {x1 : Int32} {x2 : Int32} {x3 : Int32} (hk : Go l E YJ7_rangeCheck_23922 d 0 0 Q 0 0 0 [some (.int x1), some (.int x2), some (.int x3)] [] h) : GoM l E YJ7_rangeCheck_23922 d 0 0 [.int x1, .int x2, .int x3] h Q := GoM.of (by decide +kernel) rfl (by simp [entA, YJ7_rangeCheck_23922]) hk
theorem dJ7_fill_bad5a_0 : decode cJ7_fill_bad5a 0 = .ok (.aload_n 0, 1) := by decide +kernel
theorem dJ7_fill_bad5a_1 : decode cJ7_fill_bad5a 1 = .ok (.arraylength, 1) := by decide +kernel
theorem dJ7_fill_bad5a_2 : decode cJ7_fill_bad5a 2 = .ok (.iload_n 1, 1) := by decide +kernel
theorem dJ7_fill_bad5a_3 : decode cJ7_fill_bad5a 3 = .ok (.iload_n 2, 1) := by decide +kernel
theorem dJ7_fill_bad5a_4 : decode cJ7_fill_bad5a 4 = .ok (.invokestatic 13, 3) := by decide +kernel
theorem dJ7_fill_bad5a_7 : decode cJ7_fill_bad5a 7 = .ok (.iload_n 1, 1) := by decide +kernel
theorem dJ7_fill_bad5a_8 : decode cJ7_fill_bad5a 8 = .ok (.istore 5, 2) := by decide +kernel
theorem dJ7_fill_bad5a_10 : decode cJ7_fill_bad5a 10 = .ok (.iload 5, 2) := by decide +kernel
theorem dJ7_fill_bad5a_12 : decode cJ7_fill_bad5a 12 = .ok (.iload_n 2, 1) := by decide +kernel
theorem dJ7_fill_bad5a_13 : decode cJ7_fill_bad5a 13 = .ok (.if_icmp .ge 14, 3) := by decide +kernel
theorem dJ7_fill_bad5a_16 : decode cJ7_fill_bad5a 16 = .ok (.aload_n 0, 1) := by decide +kernel
theorem dJ7_fill_bad5a_17 : decode cJ7_fill_bad5a 17 = .ok (.iload 5, 2) := by decide +kernel
theorem dJ7_fill_bad5a_19 : decode cJ7_fill_bad5a 19 = .ok (.lload_n 3, 1) := by decide +kernel
theorem dJ7_fill_bad5a_20 : decode cJ7_fill_bad5a 20 = .ok (.lastore, 1) := by decide +kernel
theorem dJ7_fill_bad5a_21 : decode cJ7_fill_bad5a 21 = .ok (.iinc 5 1, 3) := by decide +kernel
theorem dJ7_fill_bad5a_24 : decode cJ7_fill_bad5a 24 = .ok (.goto (-14), 3) := by decide +kernel
theorem dJ7_fill_bad5a_27 : decode cJ7_fill_bad5a 27 = .ok (.return_, 1) := by decide +kernel
def bJ7_fill_bad5a_0 (l : Launch) (E : Ev) (d : Nat) (Q : Option Value → Hp → Prop) : Kt := k_aload 0 (k_alen (k_iload 1 (k_iload 2 (k_callS l E YJ7_rangeCheck_23922 d 0 0 3 (k_iload 1 (k_istore 5 (Go l E YJ7_fill_bad5a (d + 1) 0 0 Q 0 0 10)))))))
set_option maxRecDepth 100000 in
set_option maxHeartbeats 4000000 in
theorem gJ7_fill_bad5a_0 {l : Launch} {E : Ev} {d : Nat} {Q : Option Value → Hp → Prop} {ls : Lv} {st : List Value} {h : Hp} (hB : bJ7_fill_bad5a_0 l E d Q ls st h) : Go l E YJ7_fill_bad5a (d + 1) 0 0 Q 0 0 0 ls st h :=
  (sd_aload_n (i := 0) rfl dJ7_fill_bad5a_0 (sd_alen dJ7_fill_bad5a_1 (sd_iload_n (i := 1) rfl dJ7_fill_bad5a_2 (sd_iload_n (i := 2) rfl dJ7_fill_bad5a_3 (sd_callS (Y' := YJ7_rangeCheck_23922) (mc' := 0) (ms' := 0) (n := 3) mw_813 mw_814 mw_115 mw_815 (okmJ7_rangeCheck_23922) (by decide) (Nat.le_refl _) (by decide) (by decide) dJ7_fill_bad5a_4 (sd_iload_n (i := 1) rfl dJ7_fill_bad5a_7 (sd_istore (i := 5) (by decide) dJ7_fill_bad5a_8 (Sd.go))))))) : Sd l E YJ7_fill_bad5a (d + 1) 0 0 Q 0 0 0 (bJ7_fill_bad5a_0 l E d Q)) ls st h hB
def bJ7_fill_bad5a_10 (l : Launch) (E : Ev) (d : Nat) (Q : Option Value → Hp → Prop) : Kt := k_iload 5 (k_iload 2 (k_icmp_ge (k_vret Q) (k_aload 0 (k_iload 5 (k_lload 3 (k_lastore (k_iinc 5 1 (Go l E YJ7_fill_bad5a (d + 1) 0 0 Q 0 0 10))))))))
set_option maxRecDepth 100000 in
set_option maxHeartbeats 4000000 in
theorem gJ7_fill_bad5a_10 {l : Launch} {E : Ev} {d : Nat} {Q : Option Value → Hp → Prop} {ls : Lv} {st : List Value} {h : Hp} (hB : bJ7_fill_bad5a_10 l E d Q ls st h) : Go l E YJ7_fill_bad5a (d + 1) 0 0 Q 0 0 10 ls st h :=
  (sd_iload (n := 5) dJ7_fill_bad5a_10 (sd_iload_n (i := 2) rfl dJ7_fill_bad5a_12 (sd_icmp_ge (tgt := 27) (by decide) dJ7_fill_bad5a_13 (sd_vret rfl (by decide) (by decide) dJ7_fill_bad5a_27) (sd_aload_n (i := 0) rfl dJ7_fill_bad5a_16 (sd_iload (n := 5) dJ7_fill_bad5a_17 (sd_lload_n (i := 3) rfl dJ7_fill_bad5a_19 (sd_lastore dJ7_fill_bad5a_20 (sd_iinc (i := 5) (v := 1) (by decide) (by decide) dJ7_fill_bad5a_21 (sd_goto (tgt := 10) (by decide) dJ7_fill_bad5a_24 (Sd.go))))))))) : Sd l E YJ7_fill_bad5a (d + 1) 0 0 Q 0 0 10 (bJ7_fill_bad5a_10 l E d Q)) ls st h hB
theorem eJ7_fill_bad5a {l : Launch} {E : Ev} {d : Nat} {Q : Option Value → Hp → Prop} {h : Hp} {x1 : Nat} {x2 : Int32} {x3 : Int32} {x4 : Int64} (hk : Go l E YJ7_fill_bad5a d 0 0 Q 0 0 0 [some (.ref x1), some (.int x2), some (.int x3), some (.long x4), none, none] [] h) : GoM l E YJ7_fill_bad5a d 0 0 [.ref x1, .int x2, .int x3, .long x4] h Q := GoM.of (by decide +kernel) rfl (by simp [entA, YJ7_fill_bad5a]) hk
theorem dJ7_fill_53178_0 : decode cJ7_fill_53178 0 = .ok (.iconst 0, 1) := by decide +kernel
theorem dJ7_fill_53178_1 : decode cJ7_fill_53178 1 = .ok (.istore_n 2, 1) := by decide +kernel
theorem dJ7_fill_53178_2 : decode cJ7_fill_53178 2 = .ok (.aload_n 0, 1) := by decide +kernel
theorem dJ7_fill_53178_3 : decode cJ7_fill_53178 3 = .ok (.arraylength, 1) := by decide +kernel
theorem dJ7_fill_53178_4 : decode cJ7_fill_53178 4 = .ok (.istore_n 3, 1) := by decide +kernel
theorem dJ7_fill_53178_5 : decode cJ7_fill_53178 5 = .ok (.iload_n 2, 1) := by decide +kernel
theorem dJ7_fill_53178_6 : decode cJ7_fill_53178 6 = .ok (.iload_n 3, 1) := by decide +kernel
theorem dJ7_fill_53178_7 : decode cJ7_fill_53178 7 = .ok (.if_icmp .ge 13, 3) := by decide +kernel
theorem dJ7_fill_53178_10 : decode cJ7_fill_53178 10 = .ok (.aload_n 0, 1) := by decide +kernel
theorem dJ7_fill_53178_11 : decode cJ7_fill_53178 11 = .ok (.iload_n 2, 1) := by decide +kernel
theorem dJ7_fill_53178_12 : decode cJ7_fill_53178 12 = .ok (.iload_n 1, 1) := by decide +kernel
theorem dJ7_fill_53178_13 : decode cJ7_fill_53178 13 = .ok (.iastore, 1) := by decide +kernel
theorem dJ7_fill_53178_14 : decode cJ7_fill_53178 14 = .ok (.iinc 2 1, 3) := by decide +kernel
theorem dJ7_fill_53178_17 : decode cJ7_fill_53178 17 = .ok (.goto (-12), 3) := by decide +kernel
theorem dJ7_fill_53178_20 : decode cJ7_fill_53178 20 = .ok (.return_, 1) := by decide +kernel
def bJ7_fill_53178_0 (l : Launch) (E : Ev) (d : Nat) (Q : Option Value → Hp → Prop) : Kt := k_push (.int 0) (k_istore 2 (k_aload 0 (k_alen (k_istore 3 (Go l E YJ7_fill_53178 (d + 1) 0 0 Q 0 0 5)))))
set_option maxRecDepth 100000 in
set_option maxHeartbeats 4000000 in
theorem gJ7_fill_53178_0 {l : Launch} {E : Ev} {d : Nat} {Q : Option Value → Hp → Prop} {ls : Lv} {st : List Value} {h : Hp} (hB : bJ7_fill_53178_0 l E d Q ls st h) : Go l E YJ7_fill_53178 (d + 1) 0 0 Q 0 0 0 ls st h :=
  (sd_iconst (v := 0) (by decide) dJ7_fill_53178_0 (sd_istore_n (i := 2) rfl (by decide) dJ7_fill_53178_1 (sd_aload_n (i := 0) rfl dJ7_fill_53178_2 (sd_alen dJ7_fill_53178_3 (sd_istore_n (i := 3) rfl (by decide) dJ7_fill_53178_4 (Sd.go))))) : Sd l E YJ7_fill_53178 (d + 1) 0 0 Q 0 0 0 (bJ7_fill_53178_0 l E d Q)) ls st h hB
def bJ7_fill_53178_5 (l : Launch) (E : Ev) (d : Nat) (Q : Option Value → Hp → Prop) : Kt := k_iload 2 (k_iload 3 (k_icmp_ge (k_vret Q) (k_aload 0 (k_iload 2 (k_iload 1 (k_iastore (k_iinc 2 1 (Go l E YJ7_fill_53178 (d + 1) 0 0 Q 0 0 5))))))))
set_option maxRecDepth 100000 in
set_option maxHeartbeats 4000000 in
theorem gJ7_fill_53178_5 {l : Launch} {E : Ev} {d : Nat} {Q : Option Value → Hp → Prop} {ls : Lv} {st : List Value} {h : Hp} (hB : bJ7_fill_53178_5 l E d Q ls st h) : Go l E YJ7_fill_53178 (d + 1) 0 0 Q 0 0 5 ls st h :=
  (sd_iload_n (i := 2) rfl dJ7_fill_53178_5 (sd_iload_n (i := 3) rfl dJ7_fill_53178_6 (sd_icmp_ge (tgt := 20) (by decide) dJ7_fill_53178_7 (sd_vret rfl (by decide) (by decide) dJ7_fill_53178_20) (sd_aload_n (i := 0) rfl dJ7_fill_53178_10 (sd_iload_n (i := 2) rfl dJ7_fill_53178_11 (sd_iload_n (i := 1) rfl dJ7_fill_53178_12 (sd_iastore dJ7_fill_53178_13 (sd_iinc (i := 2) (v := 1) (by decide) (by decide) dJ7_fill_53178_14 (sd_goto (tgt := 5) (by decide) dJ7_fill_53178_17 (Sd.go))))))))) : Sd l E YJ7_fill_53178 (d + 1) 0 0 Q 0 0 5 (bJ7_fill_53178_5 l E d Q)) ls st h hB
theorem eJ7_fill_53178 {l : Launch} {E : Ev} {d : Nat} {Q : Option Value → Hp → Prop} {h : Hp} {x1 : Nat} {x2 : Int32} (hk : Go l E YJ7_fill_53178 d 0 0 Q 0 0 0 [some (.ref x1), some (.int x2), none, none] [] h) : GoM l E YJ7_fill_53178 d 0 0 [.ref x1, .int x2] h Q := GoM.of (by decide +kernel) rfl (by simp [entA, YJ7_fill_53178]) hk
theorem dJ7_copyOf_59c91_0 : decode cJ7_copyOf_59c91 0 = .ok (.iload_n 1, 1) := by decide +kernel
theorem dJ7_copyOf_59c91_1 : decode cJ7_copyOf_59c91 1 = .ok (.aload_n 0, 1) := by decide +kernel
theorem dJ7_copyOf_59c91_2 : decode cJ7_copyOf_59c91 2 = .ok (.arraylength, 1) := by decide +kernel
theorem dJ7_copyOf_59c91_3 : decode cJ7_copyOf_59c91 3 = .ok (.if_icmp .ne 11, 3) := by decide +kernel
theorem dJ7_copyOf_59c91_6 : decode cJ7_copyOf_59c91 6 = .ok (.aload_n 0, 1) := by decide +kernel
theorem dJ7_copyOf_59c91_7 : decode cJ7_copyOf_59c91 7 = .ok (.invokevirtual 316, 3) := by decide +kernel
theorem dJ7_copyOf_59c91_10 : decode cJ7_copyOf_59c91 10 = .ok (.checkcast 317, 3) := by decide +kernel
theorem dJ7_copyOf_59c91_13 : decode cJ7_copyOf_59c91 13 = .ok (.areturn, 1) := by decide +kernel
theorem dJ7_copyOf_59c91_14 : decode cJ7_copyOf_59c91 14 = .ok (.iload_n 1, 1) := by decide +kernel
theorem dJ7_copyOf_59c91_15 : decode cJ7_copyOf_59c91 15 = .ok (.newarray .int, 2) := by decide +kernel
theorem dJ7_copyOf_59c91_17 : decode cJ7_copyOf_59c91 17 = .ok (.astore_n 2, 1) := by decide +kernel
theorem dJ7_copyOf_59c91_18 : decode cJ7_copyOf_59c91 18 = .ok (.aload_n 0, 1) := by decide +kernel
theorem dJ7_copyOf_59c91_19 : decode cJ7_copyOf_59c91 19 = .ok (.iconst 0, 1) := by decide +kernel
theorem dJ7_copyOf_59c91_20 : decode cJ7_copyOf_59c91 20 = .ok (.aload_n 2, 1) := by decide +kernel
theorem dJ7_copyOf_59c91_21 : decode cJ7_copyOf_59c91 21 = .ok (.iconst 0, 1) := by decide +kernel
theorem dJ7_copyOf_59c91_22 : decode cJ7_copyOf_59c91 22 = .ok (.aload_n 0, 1) := by decide +kernel
theorem dJ7_copyOf_59c91_23 : decode cJ7_copyOf_59c91 23 = .ok (.arraylength, 1) := by decide +kernel
theorem dJ7_copyOf_59c91_24 : decode cJ7_copyOf_59c91 24 = .ok (.iload_n 1, 1) := by decide +kernel
theorem dJ7_copyOf_59c91_25 : decode cJ7_copyOf_59c91 25 = .ok (.invokestatic 304, 3) := by decide +kernel
theorem dJ7_copyOf_59c91_28 : decode cJ7_copyOf_59c91 28 = .ok (.invokestatic 150, 3) := by decide +kernel
theorem dJ7_copyOf_59c91_31 : decode cJ7_copyOf_59c91 31 = .ok (.aload_n 2, 1) := by decide +kernel
theorem dJ7_copyOf_59c91_32 : decode cJ7_copyOf_59c91 32 = .ok (.areturn, 1) := by decide +kernel
def bJ7_copyOf_59c91_0 (l : Launch) (E : Ev) (d : Nat) (Q : Option Value → Hp → Prop) : Kt := k_iload 1 (k_aload 0 (k_alen (k_icmp_ne (k_iload 1 (k_newarr 1 400 (k_astore 2 (k_aload 0 (k_push (.int 0) (k_aload 2 (k_push (.int 0) (k_aload 0 (k_alen (k_iload 1 (k_mmin (k_copyI (k_aload 2 (k_aret Q)))))))))))))) (k_aload 0 (k_clone 400 (k_castI (k_aret Q)))))))
set_option maxRecDepth 100000 in
set_option maxHeartbeats 4000000 in
theorem gJ7_copyOf_59c91_0 {l : Launch} {E : Ev} {d : Nat} {Q : Option Value → Hp → Prop} {ls : Lv} {st : List Value} {h : Hp} (hB : bJ7_copyOf_59c91_0 l E d Q ls st h) : Go l E YJ7_copyOf_59c91 (d + 1) 1 400 Q 0 0 0 ls st h :=
  (sd_iload_n (i := 1) rfl dJ7_copyOf_59c91_0 (sd_aload_n (i := 0) rfl dJ7_copyOf_59c91_1 (sd_alen dJ7_copyOf_59c91_2 (sd_icmp_ne (tgt := 14) (by decide) dJ7_copyOf_59c91_3 (sd_iload_n (i := 1) rfl dJ7_copyOf_59c91_14 (sd_newarr (at' := .int) (ki := 1) (B := 400) (by decide) mw_214 (by decide) (by decide) (by decide) dJ7_copyOf_59c91_15 (sd_astore_n (i := 2) rfl (by decide) dJ7_copyOf_59c91_17 (sd_aload_n (i := 0) rfl dJ7_copyOf_59c91_18 (sd_iconst (v := 0) (by decide) dJ7_copyOf_59c91_19 (sd_aload_n (i := 2) rfl dJ7_copyOf_59c91_20 (sd_iconst (v := 0) (by decide) dJ7_copyOf_59c91_21 (sd_aload_n (i := 0) rfl dJ7_copyOf_59c91_22 (sd_alen dJ7_copyOf_59c91_23 (sd_iload_n (i := 1) rfl dJ7_copyOf_59c91_24 (sd_mmin mw_741 mw_587 mw_109 mw_588 (by omega) (by decide) (by decide) dJ7_copyOf_59c91_25 (sd_copyI mw_742 mw_744 mw_743 mw_116 (by omega) dJ7_copyOf_59c91_28 (sd_aload_n (i := 2) rfl dJ7_copyOf_59c91_31 (sd_aret (rt := (.array .int)) rfl (Or.inr ⟨_, rfl⟩) (by decide) (by decide) dJ7_copyOf_59c91_32)))))))))))))) (sd_aload_n (i := 0) rfl dJ7_copyOf_59c91_6 (sd_clone (B := 400) mw_734 mw_735 mw_736 mw_737 mw_738 (by omega) (by decide) (by decide) dJ7_copyOf_59c91_7 (sd_castI mw_740 dJ7_copyOf_59c91_10 (sd_aret (rt := (.array .int)) rfl (Or.inr ⟨_, rfl⟩) (by decide) (by decide) dJ7_copyOf_59c91_13))))))) : Sd l E YJ7_copyOf_59c91 (d + 1) 1 400 Q 0 0 0 (bJ7_copyOf_59c91_0 l E d Q)) ls st h hB
theorem eJ7_copyOf_59c91 {l : Launch} {E : Ev} {d : Nat} {Q : Option Value → Hp → Prop} {h : Hp} {x1 : Nat} {x2 : Int32} (hk : Go l E YJ7_copyOf_59c91 d 1 400 Q 0 0 0 [some (.ref x1), some (.int x2), none] [] h) : GoM l E YJ7_copyOf_59c91 d 1 400 [.ref x1, .int x2] h Q := GoM.of (by decide +kernel) rfl (by simp [entA, YJ7_copyOf_59c91]) hk
theorem dJ3_checkIndex_8e157_0 : decode cJ3_checkIndex_8e157 0 = .ok (.iload_n 0, 1) := by decide +kernel
theorem dJ3_checkIndex_8e157_1 : decode cJ3_checkIndex_8e157 1 = .ok (.ifCond .lt 8, 3) := by decide +kernel
theorem dJ3_checkIndex_8e157_4 : decode cJ3_checkIndex_8e157 4 = .ok (.iload_n 0, 1) := by decide +kernel
theorem dJ3_checkIndex_8e157_5 : decode cJ3_checkIndex_8e157 5 = .ok (.iload_n 1, 1) := by decide +kernel
theorem dJ3_checkIndex_8e157_6 : decode cJ3_checkIndex_8e157 6 = .ok (.if_icmp .lt 10, 3) := by decide +kernel
theorem dJ3_checkIndex_8e157_9 : decode cJ3_checkIndex_8e157 9 = .ok (.aload_n 2, 1) := by decide +kernel
theorem dJ3_checkIndex_8e157_10 : decode cJ3_checkIndex_8e157 10 = .ok (.iload_n 0, 1) := by decide +kernel
theorem dJ3_checkIndex_8e157_11 : decode cJ3_checkIndex_8e157 11 = .ok (.iload_n 1, 1) := by decide +kernel
theorem dJ3_checkIndex_8e157_16 : decode cJ3_checkIndex_8e157 16 = .ok (.iload_n 0, 1) := by decide +kernel
theorem dJ3_checkIndex_8e157_17 : decode cJ3_checkIndex_8e157 17 = .ok (.ireturn, 1) := by decide +kernel
def bJ3_checkIndex_8e157_0 (l : Launch) (E : Ev) (d : Nat) (Q : Option Value → Hp → Prop) : Kt := k_iload 0 (k_if_lt (k_aload 2 (k_iload 0 (k_iload 1 (fun _ _ _ => False)))) (k_iload 0 (k_iload 1 (k_icmp_lt (k_iload 0 (k_iret .int Q)) (k_aload 2 (k_iload 0 (k_iload 1 (fun _ _ _ => False))))))))
set_option maxRecDepth 100000 in
set_option maxHeartbeats 4000000 in
theorem gJ3_checkIndex_8e157_0 {l : Launch} {E : Ev} {d : Nat} {Q : Option Value → Hp → Prop} {ls : Lv} {st : List Value} {h : Hp} (hB : bJ3_checkIndex_8e157_0 l E d Q ls st h) : Go l E YJ3_checkIndex_8e157 (d + 1) 0 0 Q 0 0 0 ls st h :=
  (sd_iload_n (i := 0) rfl dJ3_checkIndex_8e157_0 (sd_if_lt (tgt := 9) (by decide) dJ3_checkIndex_8e157_1 (sd_aload_n (i := 2) rfl dJ3_checkIndex_8e157_9 (sd_iload_n (i := 0) rfl dJ3_checkIndex_8e157_10 (sd_iload_n (i := 1) rfl dJ3_checkIndex_8e157_11 (k_no_sd)))) (sd_iload_n (i := 0) rfl dJ3_checkIndex_8e157_4 (sd_iload_n (i := 1) rfl dJ3_checkIndex_8e157_5 (sd_icmp_lt (tgt := 16) (by decide) dJ3_checkIndex_8e157_6 (sd_iload_n (i := 0) rfl dJ3_checkIndex_8e157_16 (sd_iret (ty := .int) rfl (by decide) (by decide) dJ3_checkIndex_8e157_17)) (sd_aload_n (i := 2) rfl dJ3_checkIndex_8e157_9 (sd_iload_n (i := 0) rfl dJ3_checkIndex_8e157_10 (sd_iload_n (i := 1) rfl dJ3_checkIndex_8e157_11 (k_no_sd)))))))) : Sd l E YJ3_checkIndex_8e157 (d + 1) 0 0 Q 0 0 0 (bJ3_checkIndex_8e157_0 l E d Q)) ls st h hB
