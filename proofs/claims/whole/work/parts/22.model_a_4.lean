theorem dX9_canDouble_0 : decode cX9_canDouble 0 = .ok (.aload_n 0, 1) := by decide +kernel
theorem dX9_canDouble_1 : decode cX9_canDouble 1 = .ok (.getfield 13, 3) := by decide +kernel
theorem dX9_canDouble_4 : decode cX9_canDouble 4 = .ok (.bipush 6, 2) := by decide +kernel
theorem dX9_canDouble_6 : decode cX9_canDouble 6 = .ok (.iaload, 1) := by decide +kernel
theorem dX9_canDouble_7 : decode cX9_canDouble 7 = .ok (.iconst 1, 1) := by decide +kernel
theorem dX9_canDouble_8 : decode cX9_canDouble 8 = .ok (.if_icmp .ne 37, 3) := by decide +kernel
theorem dX9_canDouble_11 : decode cX9_canDouble 11 = .ok (.aload_n 0, 1) := by decide +kernel
theorem dX9_canDouble_12 : decode cX9_canDouble 12 = .ok (.getfield 13, 3) := by decide +kernel
theorem dX9_canDouble_15 : decode cX9_canDouble 15 = .ok (.bipush 42, 2) := by decide +kernel
theorem dX9_canDouble_17 : decode cX9_canDouble 17 = .ok (.iconst 4, 1) := by decide +kernel
theorem dX9_canDouble_18 : decode cX9_canDouble 18 = .ok (.iload_n 1, 1) := by decide +kernel
theorem dX9_canDouble_19 : decode cX9_canDouble 19 = .ok (.imul, 1) := by decide +kernel
theorem dX9_canDouble_20 : decode cX9_canDouble 20 = .ok (.iadd, 1) := by decide +kernel
theorem dX9_canDouble_21 : decode cX9_canDouble 21 = .ok (.iconst 2, 1) := by decide +kernel
theorem dX9_canDouble_22 : decode cX9_canDouble 22 = .ok (.iadd, 1) := by decide +kernel
theorem dX9_canDouble_23 : decode cX9_canDouble 23 = .ok (.iaload, 1) := by decide +kernel
theorem dX9_canDouble_24 : decode cX9_canDouble 24 = .ok (.aload_n 0, 1) := by decide +kernel
theorem dX9_canDouble_25 : decode cX9_canDouble 25 = .ok (.getfield 13, 3) := by decide +kernel
theorem dX9_canDouble_28 : decode cX9_canDouble 28 = .ok (.bipush 42, 2) := by decide +kernel
theorem dX9_canDouble_30 : decode cX9_canDouble 30 = .ok (.iconst 4, 1) := by decide +kernel
theorem dX9_canDouble_31 : decode cX9_canDouble 31 = .ok (.iload_n 2, 1) := by decide +kernel
theorem dX9_canDouble_32 : decode cX9_canDouble 32 = .ok (.imul, 1) := by decide +kernel
theorem dX9_canDouble_33 : decode cX9_canDouble 33 = .ok (.iadd, 1) := by decide +kernel
theorem dX9_canDouble_34 : decode cX9_canDouble 34 = .ok (.iconst 2, 1) := by decide +kernel
theorem dX9_canDouble_35 : decode cX9_canDouble 35 = .ok (.iadd, 1) := by decide +kernel
theorem dX9_canDouble_36 : decode cX9_canDouble 36 = .ok (.iaload, 1) := by decide +kernel
theorem dX9_canDouble_37 : decode cX9_canDouble 37 = .ok (.iand, 1) := by decide +kernel
theorem dX9_canDouble_38 : decode cX9_canDouble 38 = .ok (.ifCond .ne 7, 3) := by decide +kernel
theorem dX9_canDouble_41 : decode cX9_canDouble 41 = .ok (.iconst 1, 1) := by decide +kernel
theorem dX9_canDouble_42 : decode cX9_canDouble 42 = .ok (.goto 4, 3) := by decide +kernel
theorem dX9_canDouble_45 : decode cX9_canDouble 45 = .ok (.iconst 0, 1) := by decide +kernel
theorem dX9_canDouble_46 : decode cX9_canDouble 46 = .ok (.ireturn, 1) := by decide +kernel
def bX9_canDouble_0 (l : Launch) (E : Ev) (d : Nat) (Q : Option Value → Hp → Prop) : Kt := k_aload 0 (k_getR 9 55 3 (k_push (.int 6) (k_iaload (k_push (.int 1) (k_icmp_ne (k_push (.int 0) (k_iret .boolean Q)) (k_aload 0 (k_getR 9 55 3 (k_push (.int 42) (k_push (.int 4) (k_iload 1 (k_imul (k_iadd (k_push (.int 2) (k_iadd (k_iaload (k_aload 0 (k_getR 9 55 3 (k_push (.int 42) (k_push (.int 4) (k_iload 2 (k_imul (k_iadd (k_push (.int 2) (k_iadd (k_iaload (k_iand (k_if_ne (k_push (.int 0) (k_iret .boolean Q)) (k_push (.int 1) (k_iret .boolean Q)))))))))))))))))))))))))))))
set_option maxRecDepth 100000 in
set_option maxHeartbeats 4000000 in
theorem gX9_canDouble_0 {l : Launch} {E : Ev} {d : Nat} {Q : Option Value → Hp → Prop} {ls : Lv} {st : List Value} {h : Hp} (hB : bX9_canDouble_0 l E d Q ls st h) : Go l E YX9_canDouble (d + 1) 0 0 Q 0 0 0 ls st h :=
  (sd_aload_n (i := 0) rfl dX9_canDouble_0 (sd_getR clsX9 (f := 3) (by decide) (fun _ _ _ => rfl) mw_1181 dX9_canDouble_1 (sd_bipush (v := 6) (by decide) dX9_canDouble_4 (sd_iaload dX9_canDouble_6 (sd_iconst (v := 1) (by decide) dX9_canDouble_7 (sd_icmp_ne (tgt := 45) (by decide) dX9_canDouble_8 (sd_iconst (v := 0) (by decide) dX9_canDouble_45 (sd_iret (ty := .boolean) rfl (by decide) (by decide) dX9_canDouble_46)) (sd_aload_n (i := 0) rfl dX9_canDouble_11 (sd_getR clsX9 (f := 3) (by decide) (fun _ _ _ => rfl) mw_1181 dX9_canDouble_12 (sd_bipush (v := 42) (by decide) dX9_canDouble_15 (sd_iconst (v := 4) (by decide) dX9_canDouble_17 (sd_iload_n (i := 1) rfl dX9_canDouble_18 (sd_imul dX9_canDouble_19 (sd_iadd dX9_canDouble_20 (sd_iconst (v := 2) (by decide) dX9_canDouble_21 (sd_iadd dX9_canDouble_22 (sd_iaload dX9_canDouble_23 (sd_aload_n (i := 0) rfl dX9_canDouble_24 (sd_getR clsX9 (f := 3) (by decide) (fun _ _ _ => rfl) mw_1181 dX9_canDouble_25 (sd_bipush (v := 42) (by decide) dX9_canDouble_28 (sd_iconst (v := 4) (by decide) dX9_canDouble_30 (sd_iload_n (i := 2) rfl dX9_canDouble_31 (sd_imul dX9_canDouble_32 (sd_iadd dX9_canDouble_33 (sd_iconst (v := 2) (by decide) dX9_canDouble_34 (sd_iadd dX9_canDouble_35 (sd_iaload dX9_canDouble_36 (sd_iand dX9_canDouble_37 (sd_if_ne (tgt := 45) (by decide) dX9_canDouble_38 (sd_iconst (v := 0) (by decide) dX9_canDouble_45 (sd_iret (ty := .boolean) rfl (by decide) (by decide) dX9_canDouble_46)) (sd_iconst (v := 1) (by decide) dX9_canDouble_41 (sd_goto (tgt := 46) (by decide) dX9_canDouble_42 (sd_iret (ty := .boolean) rfl (by decide) (by decide) dX9_canDouble_46)))))))))))))))))))))))))))))) : Sd l E YX9_canDouble (d + 1) 0 0 Q 0 0 0 (bX9_canDouble_0 l E d Q)) ls st h hB
theorem eX9_canDouble {l : Launch} {E : Ev} {d : Nat} {Q : Option Value → Hp → Prop} {h : Hp} {a0 : Nat} {x1 : Int32} {x2 : Int32} (hk : Go l E YX9_canDouble d 0 0 Q 0 0 0 [some (.ref a0), some (.int x1), some (.int x2)] [] h) : GoM l E YX9_canDouble d 0 0 [.ref a0, .int x1, .int x2] h Q := GoM.of (by decide +kernel) rfl (by simp [entA, YX9_canDouble]) hk
theorem dX9_capped_0 : decode cX9_capped 0 = .ok (.lload_n 0, 1) := by decide +kernel
theorem dX9_capped_1 : decode cX9_capped 1 = .ok (.ldc2_w 328, 3) := by decide +kernel
theorem dX9_capped_4 : decode cX9_capped 4 = .ok (.lcmp, 1) := by decide +kernel
theorem dX9_capped_5 : decode cX9_capped 5 = .ok (.ifCond .le 9, 3) := by decide +kernel
theorem dX9_capped_8 : decode cX9_capped 8 = .ok (.ldc_w 357, 3) := by decide +kernel
theorem dX9_capped_11 : decode cX9_capped 11 = .ok (.goto 5, 3) := by decide +kernel
theorem dX9_capped_14 : decode cX9_capped 14 = .ok (.lload_n 0, 1) := by decide +kernel
theorem dX9_capped_15 : decode cX9_capped 15 = .ok (.l2i, 1) := by decide +kernel
theorem dX9_capped_16 : decode cX9_capped 16 = .ok (.ireturn, 1) := by decide +kernel
def bX9_capped_0 (l : Launch) (E : Ev) (d : Nat) (Q : Option Value → Hp → Prop) : Kt := k_lload 0 (k_push (.long 1000000000) (k_lcmp (k_if_le (k_lload 0 (k_l2i (k_iret .int Q))) (k_push (.int 1000000000) (k_iret .int Q)))))
set_option maxRecDepth 100000 in
set_option maxHeartbeats 4000000 in
theorem gX9_capped_0 {l : Launch} {E : Ev} {d : Nat} {Q : Option Value → Hp → Prop} {ls : Lv} {st : List Value} {h : Hp} (hB : bX9_capped_0 l E d Q ls st h) : Go l E YX9_capped (d + 1) 0 0 Q 0 0 0 ls st h :=
  (sd_lload_n (i := 0) rfl dX9_capped_0 (sd_ldc2 (v := 1000000000) mw_1584 dX9_capped_1 (sd_lcmp dX9_capped_4 (sd_if_le (tgt := 14) (by decide) dX9_capped_5 (sd_lload_n (i := 0) rfl dX9_capped_14 (sd_l2i dX9_capped_15 (sd_iret (ty := .int) rfl (by decide) (by decide) dX9_capped_16))) (sd_ldcw (v := 1000000000) mw_1617 dX9_capped_8 (sd_goto (tgt := 16) (by decide) dX9_capped_11 (sd_iret (ty := .int) rfl (by decide) (by decide) dX9_capped_16)))))) : Sd l E YX9_capped (d + 1) 0 0 Q 0 0 0 (bX9_capped_0 l E d Q)) ls st h hB
theorem eX9_capped {l : Launch} {E : Ev} {d : Nat} {Q : Option Value → Hp → Prop} {h : Hp} {x1 : Int64} (hk : Go l E YX9_capped d 0 0 Q 0 0 0 [some (.long x1), none] [] h) : GoM l E YX9_capped d 0 0 [.long x1] h Q := GoM.of (by decide +kernel) rfl (by simp [entA, YX9_capped]) hk
theorem dX9_reach_0 : decode cX9_reach 0 = .ok (.aload_n 0, 1) := by decide +kernel
theorem dX9_reach_1 : decode cX9_reach 1 = .ok (.getfield 95, 3) := by decide +kernel
theorem dX9_reach_4 : decode cX9_reach 4 = .ok (.iload_n 1, 1) := by decide +kernel
theorem dX9_reach_5 : decode cX9_reach 5 = .ok (.iaload, 1) := by decide +kernel
theorem dX9_reach_6 : decode cX9_reach 6 = .ok (.iload_n 3, 1) := by decide +kernel
theorem dX9_reach_7 : decode cX9_reach 7 = .ok (.iadd, 1) := by decide +kernel
theorem dX9_reach_8 : decode cX9_reach 8 = .ok (.istore 4, 2) := by decide +kernel
theorem dX9_reach_10 : decode cX9_reach 10 = .ok (.iload 4, 2) := by decide +kernel
theorem dX9_reach_12 : decode cX9_reach 12 = .ok (.aload_n 0, 1) := by decide +kernel
theorem dX9_reach_13 : decode cX9_reach 13 = .ok (.getfield 95, 3) := by decide +kernel
theorem dX9_reach_16 : decode cX9_reach 16 = .ok (.iload_n 2, 1) := by decide +kernel
theorem dX9_reach_17 : decode cX9_reach 17 = .ok (.iaload, 1) := by decide +kernel
theorem dX9_reach_18 : decode cX9_reach 18 = .ok (.if_icmp .ge 18, 3) := by decide +kernel
theorem dX9_reach_21 : decode cX9_reach 21 = .ok (.aload_n 0, 1) := by decide +kernel
theorem dX9_reach_22 : decode cX9_reach 22 = .ok (.getfield 95, 3) := by decide +kernel
theorem dX9_reach_25 : decode cX9_reach 25 = .ok (.iload_n 2, 1) := by decide +kernel
theorem dX9_reach_26 : decode cX9_reach 26 = .ok (.iload 4, 2) := by decide +kernel
theorem dX9_reach_28 : decode cX9_reach 28 = .ok (.iastore, 1) := by decide +kernel
theorem dX9_reach_29 : decode cX9_reach 29 = .ok (.aload_n 0, 1) := by decide +kernel
theorem dX9_reach_30 : decode cX9_reach 30 = .ok (.getfield 98, 3) := by decide +kernel
theorem dX9_reach_33 : decode cX9_reach 33 = .ok (.iload_n 2, 1) := by decide +kernel
theorem dX9_reach_34 : decode cX9_reach 34 = .ok (.iconst 0, 1) := by decide +kernel
theorem dX9_reach_35 : decode cX9_reach 35 = .ok (.iastore, 1) := by decide +kernel
theorem dX9_reach_36 : decode cX9_reach 36 = .ok (.aload_n 0, 1) := by decide +kernel
theorem dX9_reach_37 : decode cX9_reach 37 = .ok (.getfield 98, 3) := by decide +kernel
theorem dX9_reach_40 : decode cX9_reach 40 = .ok (.iload_n 2, 1) := by decide +kernel
theorem dX9_reach_41 : decode cX9_reach 41 = .ok (.iload 4, 2) := by decide +kernel
theorem dX9_reach_43 : decode cX9_reach 43 = .ok (.aload_n 0, 1) := by decide +kernel
theorem dX9_reach_44 : decode cX9_reach 44 = .ok (.getfield 95, 3) := by decide +kernel
theorem dX9_reach_47 : decode cX9_reach 47 = .ok (.iload_n 2, 1) := by decide +kernel
theorem dX9_reach_48 : decode cX9_reach 48 = .ok (.iaload, 1) := by decide +kernel
theorem dX9_reach_49 : decode cX9_reach 49 = .ok (.if_icmp .ne 24, 3) := by decide +kernel
theorem dX9_reach_52 : decode cX9_reach 52 = .ok (.aload_n 0, 1) := by decide +kernel
theorem dX9_reach_53 : decode cX9_reach 53 = .ok (.getfield 98, 3) := by decide +kernel
theorem dX9_reach_56 : decode cX9_reach 56 = .ok (.iload_n 2, 1) := by decide +kernel
theorem dX9_reach_57 : decode cX9_reach 57 = .ok (.iaload, 1) := by decide +kernel
theorem dX9_reach_58 : decode cX9_reach 58 = .ok (.i2l, 1) := by decide +kernel
theorem dX9_reach_59 : decode cX9_reach 59 = .ok (.aload_n 0, 1) := by decide +kernel
theorem dX9_reach_60 : decode cX9_reach 60 = .ok (.getfield 98, 3) := by decide +kernel
theorem dX9_reach_63 : decode cX9_reach 63 = .ok (.iload_n 1, 1) := by decide +kernel
theorem dX9_reach_64 : decode cX9_reach 64 = .ok (.iaload, 1) := by decide +kernel
theorem dX9_reach_65 : decode cX9_reach 65 = .ok (.i2l, 1) := by decide +kernel
theorem dX9_reach_66 : decode cX9_reach 66 = .ok (.ladd, 1) := by decide +kernel
theorem dX9_reach_67 : decode cX9_reach 67 = .ok (.invokestatic 358, 3) := by decide +kernel
theorem dX9_reach_70 : decode cX9_reach 70 = .ok (.goto 9, 3) := by decide +kernel
theorem dX9_reach_73 : decode cX9_reach 73 = .ok (.aload_n 0, 1) := by decide +kernel
theorem dX9_reach_74 : decode cX9_reach 74 = .ok (.getfield 98, 3) := by decide +kernel
theorem dX9_reach_77 : decode cX9_reach 77 = .ok (.iload_n 2, 1) := by decide +kernel
theorem dX9_reach_78 : decode cX9_reach 78 = .ok (.iaload, 1) := by decide +kernel
theorem dX9_reach_79 : decode cX9_reach 79 = .ok (.iastore, 1) := by decide +kernel
theorem dX9_reach_80 : decode cX9_reach 80 = .ok (.aload_n 0, 1) := by decide +kernel
theorem dX9_reach_81 : decode cX9_reach 81 = .ok (.getfield 101, 3) := by decide +kernel
theorem dX9_reach_84 : decode cX9_reach 84 = .ok (.iload_n 2, 1) := by decide +kernel
theorem dX9_reach_85 : decode cX9_reach 85 = .ok (.aload_n 0, 1) := by decide +kernel
theorem dX9_reach_86 : decode cX9_reach 86 = .ok (.getfield 101, 3) := by decide +kernel
theorem dX9_reach_89 : decode cX9_reach 89 = .ok (.iload_n 2, 1) := by decide +kernel
theorem dX9_reach_90 : decode cX9_reach 90 = .ok (.iaload, 1) := by decide +kernel
theorem dX9_reach_91 : decode cX9_reach 91 = .ok (.i2l, 1) := by decide +kernel
theorem dX9_reach_92 : decode cX9_reach 92 = .ok (.aload_n 0, 1) := by decide +kernel
theorem dX9_reach_93 : decode cX9_reach 93 = .ok (.getfield 101, 3) := by decide +kernel
theorem dX9_reach_96 : decode cX9_reach 96 = .ok (.iload_n 1, 1) := by decide +kernel
theorem dX9_reach_97 : decode cX9_reach 97 = .ok (.iaload, 1) := by decide +kernel
theorem dX9_reach_98 : decode cX9_reach 98 = .ok (.i2l, 1) := by decide +kernel
theorem dX9_reach_99 : decode cX9_reach 99 = .ok (.ladd, 1) := by decide +kernel
theorem dX9_reach_100 : decode cX9_reach 100 = .ok (.invokestatic 358, 3) := by decide +kernel
theorem dX9_reach_103 : decode cX9_reach 103 = .ok (.iastore, 1) := by decide +kernel
theorem dX9_reach_104 : decode cX9_reach 104 = .ok (.return_, 1) := by decide +kernel
def bX9_reach_0 (l : Launch) (E : Ev) (d : Nat) (Q : Option Value → Hp → Prop) : Kt := k_aload 0 (k_getR 9 55 37 (k_iload 1 (k_iaload (k_iload 3 (k_iadd (k_istore 4 (k_iload 4 (k_aload 0 (k_getR 9 55 37 (k_iload 2 (k_iaload (k_icmp_ge (Go l E YX9_reach (d + 1) 0 0 Q 0 0 36) (k_aload 0 (k_getR 9 55 37 (k_iload 2 (k_iload 4 (k_iastore (k_aload 0 (k_getR 9 55 38 (k_iload 2 (k_push (.int 0) (k_iastore (Go l E YX9_reach (d + 1) 0 0 Q 0 0 36)))))))))))))))))))))))
set_option maxRecDepth 100000 in
set_option maxHeartbeats 4000000 in
theorem gX9_reach_0 {l : Launch} {E : Ev} {d : Nat} {Q : Option Value → Hp → Prop} {ls : Lv} {st : List Value} {h : Hp} (hB : bX9_reach_0 l E d Q ls st h) : Go l E YX9_reach (d + 1) 0 0 Q 0 0 0 ls st h :=
  (sd_aload_n (i := 0) rfl dX9_reach_0 (sd_getR clsX9 (f := 37) (by decide) (fun _ _ _ => rfl) mw_1215 dX9_reach_1 (sd_iload_n (i := 1) rfl dX9_reach_4 (sd_iaload dX9_reach_5 (sd_iload_n (i := 3) rfl dX9_reach_6 (sd_iadd dX9_reach_7 (sd_istore (i := 4) (by decide) dX9_reach_8 (sd_iload (n := 4) dX9_reach_10 (sd_aload_n (i := 0) rfl dX9_reach_12 (sd_getR clsX9 (f := 37) (by decide) (fun _ _ _ => rfl) mw_1215 dX9_reach_13 (sd_iload_n (i := 2) rfl dX9_reach_16 (sd_iaload dX9_reach_17 (sd_icmp_ge (tgt := 36) (by decide) dX9_reach_18 (Sd.go) (sd_aload_n (i := 0) rfl dX9_reach_21 (sd_getR clsX9 (f := 37) (by decide) (fun _ _ _ => rfl) mw_1215 dX9_reach_22 (sd_iload_n (i := 2) rfl dX9_reach_25 (sd_iload (n := 4) dX9_reach_26 (sd_iastore dX9_reach_28 (sd_aload_n (i := 0) rfl dX9_reach_29 (sd_getR clsX9 (f := 38) (by decide) (fun _ _ _ => rfl) mw_1216 dX9_reach_30 (sd_iload_n (i := 2) rfl dX9_reach_33 (sd_iconst (v := 0) (by decide) dX9_reach_34 (sd_iastore dX9_reach_35 (Sd.go))))))))))))))))))))))) : Sd l E YX9_reach (d + 1) 0 0 Q 0 0 0 (bX9_reach_0 l E d Q)) ls st h hB
def bX9_reach_36 (l : Launch) (E : Ev) (d : Nat) (Q : Option Value → Hp → Prop) : Kt := k_aload 0 (k_getR 9 55 38 (k_iload 2 (k_iload 4 (k_aload 0 (k_getR 9 55 37 (k_iload 2 (k_iaload (k_icmp_ne (k_aload 0 (k_getR 9 55 38 (k_iload 2 (k_iaload (Go l E YX9_reach (d + 1) 0 0 Q 0 0 79))))) (k_aload 0 (k_getR 9 55 38 (k_iload 2 (k_iaload (k_i2l (k_aload 0 (k_getR 9 55 38 (k_iload 1 (k_iaload (k_i2l (k_ladd (k_callS l E YX9_capped d 0 0 1 (Go l E YX9_reach (d + 1) 0 0 Q 0 0 79)))))))))))))))))))))
set_option maxRecDepth 100000 in
set_option maxHeartbeats 4000000 in
theorem gX9_reach_36 {l : Launch} {E : Ev} {d : Nat} {Q : Option Value → Hp → Prop} {ls : Lv} {st : List Value} {h : Hp} (hB : bX9_reach_36 l E d Q ls st h) : Go l E YX9_reach (d + 1) 0 0 Q 0 0 36 ls st h :=
  (sd_aload_n (i := 0) rfl dX9_reach_36 (sd_getR clsX9 (f := 38) (by decide) (fun _ _ _ => rfl) mw_1216 dX9_reach_37 (sd_iload_n (i := 2) rfl dX9_reach_40 (sd_iload (n := 4) dX9_reach_41 (sd_aload_n (i := 0) rfl dX9_reach_43 (sd_getR clsX9 (f := 37) (by decide) (fun _ _ _ => rfl) mw_1215 dX9_reach_44 (sd_iload_n (i := 2) rfl dX9_reach_47 (sd_iaload dX9_reach_48 (sd_icmp_ne (tgt := 73) (by decide) dX9_reach_49 (sd_aload_n (i := 0) rfl dX9_reach_73 (sd_getR clsX9 (f := 38) (by decide) (fun _ _ _ => rfl) mw_1216 dX9_reach_74 (sd_iload_n (i := 2) rfl dX9_reach_77 (sd_iaload dX9_reach_78 (Sd.go))))) (sd_aload_n (i := 0) rfl dX9_reach_52 (sd_getR clsX9 (f := 38) (by decide) (fun _ _ _ => rfl) mw_1216 dX9_reach_53 (sd_iload_n (i := 2) rfl dX9_reach_56 (sd_iaload dX9_reach_57 (sd_i2l dX9_reach_58 (sd_aload_n (i := 0) rfl dX9_reach_59 (sd_getR clsX9 (f := 38) (by decide) (fun _ _ _ => rfl) mw_1216 dX9_reach_60 (sd_iload_n (i := 1) rfl dX9_reach_63 (sd_iaload dX9_reach_64 (sd_i2l dX9_reach_65 (sd_ladd dX9_reach_66 (sd_callS (Y' := YX9_capped) (mc' := 0) (ms' := 0) (n := 1) mw_1614 mw_1615 mw_108 mw_1616 (okmX9_capped) (by decide) (Nat.le_refl _) (by decide) (by decide) dX9_reach_67 (sd_goto (tgt := 79) (by decide) dX9_reach_70 (Sd.go)))))))))))))))))))))) : Sd l E YX9_reach (d + 1) 0 0 Q 0 0 36 (bX9_reach_36 l E d Q)) ls st h hB
def bX9_reach_79 (l : Launch) (E : Ev) (d : Nat) (Q : Option Value → Hp → Prop) : Kt := k_iastore (k_aload 0 (k_getR 9 55 39 (k_iload 2 (k_aload 0 (k_getR 9 55 39 (k_iload 2 (k_iaload (k_i2l (k_aload 0 (k_getR 9 55 39 (k_iload 1 (k_iaload (k_i2l (k_ladd (k_callS l E YX9_capped d 0 0 1 (k_iastore (k_vret Q)))))))))))))))))
set_option maxRecDepth 100000 in
set_option maxHeartbeats 4000000 in
theorem gX9_reach_79 {l : Launch} {E : Ev} {d : Nat} {Q : Option Value → Hp → Prop} {ls : Lv} {st : List Value} {h : Hp} (hB : bX9_reach_79 l E d Q ls st h) : Go l E YX9_reach (d + 1) 0 0 Q 0 0 79 ls st h :=
  (sd_iastore dX9_reach_79 (sd_aload_n (i := 0) rfl dX9_reach_80 (sd_getR clsX9 (f := 39) (by decide) (fun _ _ _ => rfl) mw_1217 dX9_reach_81 (sd_iload_n (i := 2) rfl dX9_reach_84 (sd_aload_n (i := 0) rfl dX9_reach_85 (sd_getR clsX9 (f := 39) (by decide) (fun _ _ _ => rfl) mw_1217 dX9_reach_86 (sd_iload_n (i := 2) rfl dX9_reach_89 (sd_iaload dX9_reach_90 (sd_i2l dX9_reach_91 (sd_aload_n (i := 0) rfl dX9_reach_92 (sd_getR clsX9 (f := 39) (by decide) (fun _ _ _ => rfl) mw_1217 dX9_reach_93 (sd_iload_n (i := 1) rfl dX9_reach_96 (sd_iaload dX9_reach_97 (sd_i2l dX9_reach_98 (sd_ladd dX9_reach_99 (sd_callS (Y' := YX9_capped) (mc' := 0) (ms' := 0) (n := 1) mw_1614 mw_1615 mw_108 mw_1616 (okmX9_capped) (by decide) (Nat.le_refl _) (by decide) (by decide) dX9_reach_100 (sd_iastore dX9_reach_103 (sd_vret rfl (by decide) (by decide) dX9_reach_104))))))))))))))))) : Sd l E YX9_reach (d + 1) 0 0 Q 0 0 79 (bX9_reach_79 l E d Q)) ls st h hB
theorem eX9_reach {l : Launch} {E : Ev} {d : Nat} {Q : Option Value → Hp → Prop} {h : Hp} {a0 : Nat} {x1 : Int32} {x2 : Int32} {x3 : Int32} (hk : Go l E YX9_reach d 0 0 Q 0 0 0 [some (.ref a0), some (.int x1), some (.int x2), some (.int x3), none] [] h) : GoM l E YX9_reach d 0 0 [.ref a0, .int x1, .int x2, .int x3] h Q := GoM.of (by decide +kernel) rfl (by simp [entA, YX9_reach]) hk
theorem dX9_fill_0 : decode cX9_fill 0 = .ok (.iconst 0, 1) := by decide +kernel
theorem dX9_fill_1 : decode cX9_fill 1 = .ok (.istore_n 2, 1) := by decide +kernel
theorem dX9_fill_2 : decode cX9_fill 2 = .ok (.iload_n 2, 1) := by decide +kernel
theorem dX9_fill_3 : decode cX9_fill 3 = .ok (.sipush 256, 3) := by decide +kernel
theorem dX9_fill_6 : decode cX9_fill 6 = .ok (.if_icmp .ge 56, 3) := by decide +kernel
theorem dX9_fill_9 : decode cX9_fill 9 = .ok (.aload_n 0, 1) := by decide +kernel
theorem dX9_fill_10 : decode cX9_fill 10 = .ok (.getfield 95, 3) := by decide +kernel
theorem dX9_fill_13 : decode cX9_fill 13 = .ok (.iload_n 2, 1) := by decide +kernel
theorem dX9_fill_14 : decode cX9_fill 14 = .ok (.iload_n 2, 1) := by decide +kernel
theorem dX9_fill_15 : decode cX9_fill 15 = .ok (.ifCond .ne 7, 3) := by decide +kernel
theorem dX9_fill_18 : decode cX9_fill 18 = .ok (.iconst 0, 1) := by decide +kernel
theorem dX9_fill_19 : decode cX9_fill 19 = .ok (.goto 6, 3) := by decide +kernel
theorem dX9_fill_22 : decode cX9_fill 22 = .ok (.ldc_w 362, 3) := by decide +kernel
theorem dX9_fill_25 : decode cX9_fill 25 = .ok (.iastore, 1) := by decide +kernel
theorem dX9_fill_26 : decode cX9_fill 26 = .ok (.aload_n 0, 1) := by decide +kernel
theorem dX9_fill_27 : decode cX9_fill 27 = .ok (.getfield 98, 3) := by decide +kernel
theorem dX9_fill_30 : decode cX9_fill 30 = .ok (.iload_n 2, 1) := by decide +kernel
theorem dX9_fill_31 : decode cX9_fill 31 = .ok (.iload_n 2, 1) := by decide +kernel
theorem dX9_fill_32 : decode cX9_fill 32 = .ok (.ifCond .ne 7, 3) := by decide +kernel
theorem dX9_fill_35 : decode cX9_fill 35 = .ok (.iconst 1, 1) := by decide +kernel
theorem dX9_fill_36 : decode cX9_fill 36 = .ok (.goto 4, 3) := by decide +kernel
theorem dX9_fill_39 : decode cX9_fill 39 = .ok (.iconst 0, 1) := by decide +kernel
theorem dX9_fill_40 : decode cX9_fill 40 = .ok (.iastore, 1) := by decide +kernel
theorem dX9_fill_41 : decode cX9_fill 41 = .ok (.aload_n 0, 1) := by decide +kernel
theorem dX9_fill_42 : decode cX9_fill 42 = .ok (.getfield 101, 3) := by decide +kernel
theorem dX9_fill_45 : decode cX9_fill 45 = .ok (.iload_n 2, 1) := by decide +kernel
theorem dX9_fill_46 : decode cX9_fill 46 = .ok (.iload_n 2, 1) := by decide +kernel
theorem dX9_fill_47 : decode cX9_fill 47 = .ok (.ifCond .ne 7, 3) := by decide +kernel
theorem dX9_fill_50 : decode cX9_fill 50 = .ok (.iconst 1, 1) := by decide +kernel
theorem dX9_fill_51 : decode cX9_fill 51 = .ok (.goto 4, 3) := by decide +kernel
theorem dX9_fill_54 : decode cX9_fill 54 = .ok (.iconst 0, 1) := by decide +kernel
theorem dX9_fill_55 : decode cX9_fill 55 = .ok (.iastore, 1) := by decide +kernel
theorem dX9_fill_56 : decode cX9_fill 56 = .ok (.iinc 2 1, 3) := by decide +kernel
theorem dX9_fill_59 : decode cX9_fill 59 = .ok (.goto (-57), 3) := by decide +kernel
theorem dX9_fill_62 : decode cX9_fill 62 = .ok (.aload_n 0, 1) := by decide +kernel
theorem dX9_fill_63 : decode cX9_fill 63 = .ok (.getfield 13, 3) := by decide +kernel
theorem dX9_fill_66 : decode cX9_fill 66 = .ok (.iconst 1, 1) := by decide +kernel
theorem dX9_fill_67 : decode cX9_fill 67 = .ok (.iaload, 1) := by decide +kernel
theorem dX9_fill_68 : decode cX9_fill 68 = .ok (.istore_n 2, 1) := by decide +kernel
theorem dX9_fill_69 : decode cX9_fill 69 = .ok (.iconst 0, 1) := by decide +kernel
theorem dX9_fill_70 : decode cX9_fill 70 = .ok (.istore_n 3, 1) := by decide +kernel
theorem dX9_fill_71 : decode cX9_fill 71 = .ok (.iload_n 3, 1) := by decide +kernel
theorem dX9_fill_72 : decode cX9_fill 72 = .ok (.aload_n 0, 1) := by decide +kernel
theorem dX9_fill_73 : decode cX9_fill 73 = .ok (.getfield 13, 3) := by decide +kernel
theorem dX9_fill_76 : decode cX9_fill 76 = .ok (.iconst 0, 1) := by decide +kernel
theorem dX9_fill_77 : decode cX9_fill 77 = .ok (.iaload, 1) := by decide +kernel
theorem dX9_fill_78 : decode cX9_fill 78 = .ok (.if_icmp .ge 199, 3) := by decide +kernel
theorem dX9_fill_81 : decode cX9_fill 81 = .ok (.iload_n 1, 1) := by decide +kernel
theorem dX9_fill_82 : decode cX9_fill 82 = .ok (.iload_n 3, 1) := by decide +kernel
theorem dX9_fill_83 : decode cX9_fill 83 = .ok (.invokestatic 363, 3) := by decide +kernel
theorem dX9_fill_86 : decode cX9_fill 86 = .ok (.ifCond .eq 7, 3) := by decide +kernel
theorem dX9_fill_89 : decode cX9_fill 89 = .ok (.iconst (-1), 1) := by decide +kernel
theorem dX9_fill_90 : decode cX9_fill 90 = .ok (.goto 8, 3) := by decide +kernel
theorem dX9_fill_93 : decode cX9_fill 93 = .ok (.iconst 1, 1) := by decide +kernel
theorem dX9_fill_94 : decode cX9_fill 94 = .ok (.iload_n 2, 1) := by decide +kernel
theorem dX9_fill_95 : decode cX9_fill 95 = .ok (.ishl, 1) := by decide +kernel
theorem dX9_fill_96 : decode cX9_fill 96 = .ok (.iconst 1, 1) := by decide +kernel
theorem dX9_fill_97 : decode cX9_fill 97 = .ok (.isub, 1) := by decide +kernel
theorem dX9_fill_98 : decode cX9_fill 98 = .ok (.istore 4, 2) := by decide +kernel
theorem dX9_fill_100 : decode cX9_fill 100 = .ok (.iload 4, 2) := by decide +kernel
theorem dX9_fill_102 : decode cX9_fill 102 = .ok (.ifCond .lt 169, 3) := by decide +kernel
theorem dX9_fill_105 : decode cX9_fill 105 = .ok (.iconst 0, 1) := by decide +kernel
theorem dX9_fill_106 : decode cX9_fill 106 = .ok (.istore 5, 2) := by decide +kernel
theorem dX9_fill_108 : decode cX9_fill 108 = .ok (.iload 5, 2) := by decide +kernel
theorem dX9_fill_110 : decode cX9_fill 110 = .ok (.iload_n 2, 1) := by decide +kernel
theorem dX9_fill_111 : decode cX9_fill 111 = .ok (.if_icmp .ge 154, 3) := by decide +kernel
theorem dX9_fill_114 : decode cX9_fill 114 = .ok (.aload_n 0, 1) := by decide +kernel
theorem dX9_fill_115 : decode cX9_fill 115 = .ok (.getfield 101, 3) := by decide +kernel
theorem dX9_fill_118 : decode cX9_fill 118 = .ok (.iload 4, 2) := by decide +kernel
theorem dX9_fill_120 : decode cX9_fill 120 = .ok (.iaload, 1) := by decide +kernel
theorem dX9_fill_121 : decode cX9_fill 121 = .ok (.ifCond .le 144, 3) := by decide +kernel
theorem dX9_fill_124 : decode cX9_fill 124 = .ok (.iload 4, 2) := by decide +kernel
theorem dX9_fill_126 : decode cX9_fill 126 = .ok (.iload 5, 2) := by decide +kernel
theorem dX9_fill_128 : decode cX9_fill 128 = .ok (.invokestatic 363, 3) := by decide +kernel
theorem dX9_fill_131 : decode cX9_fill 131 = .ok (.ifCond .ne 128, 3) := by decide +kernel
theorem dX9_fill_134 : decode cX9_fill 134 = .ok (.aload_n 0, 1) := by decide +kernel
theorem dX9_fill_135 : decode cX9_fill 135 = .ok (.iload_n 3, 1) := by decide +kernel
theorem dX9_fill_136 : decode cX9_fill 136 = .ok (.iload 5, 2) := by decide +kernel
theorem dX9_fill_138 : decode cX9_fill 138 = .ok (.invokevirtual 366, 3) := by decide +kernel
theorem dX9_fill_141 : decode cX9_fill 141 = .ok (.ifCond .eq 118, 3) := by decide +kernel
theorem dX9_fill_144 : decode cX9_fill 144 = .ok (.aload_n 0, 1) := by decide +kernel
theorem dX9_fill_145 : decode cX9_fill 145 = .ok (.iload 4, 2) := by decide +kernel
theorem dX9_fill_147 : decode cX9_fill 147 = .ok (.iload 4, 2) := by decide +kernel
theorem dX9_fill_149 : decode cX9_fill 149 = .ok (.iconst 1, 1) := by decide +kernel
theorem dX9_fill_150 : decode cX9_fill 150 = .ok (.iload 5, 2) := by decide +kernel
theorem dX9_fill_152 : decode cX9_fill 152 = .ok (.ishl, 1) := by decide +kernel
theorem dX9_fill_153 : decode cX9_fill 153 = .ok (.ior, 1) := by decide +kernel
theorem dX9_fill_154 : decode cX9_fill 154 = .ok (.aload_n 0, 1) := by decide +kernel
theorem dX9_fill_155 : decode cX9_fill 155 = .ok (.getfield 92, 3) := by decide +kernel
theorem dX9_fill_158 : decode cX9_fill 158 = .ok (.bipush 8, 2) := by decide +kernel
theorem dX9_fill_160 : decode cX9_fill 160 = .ok (.iload_n 3, 1) := by decide +kernel
theorem dX9_fill_161 : decode cX9_fill 161 = .ok (.imul, 1) := by decide +kernel
theorem dX9_fill_162 : decode cX9_fill 162 = .ok (.iload 5, 2) := by decide +kernel
theorem dX9_fill_164 : decode cX9_fill 164 = .ok (.iadd, 1) := by decide +kernel
theorem dX9_fill_165 : decode cX9_fill 165 = .ok (.iaload, 1) := by decide +kernel
theorem dX9_fill_166 : decode cX9_fill 166 = .ok (.invokevirtual 369, 3) := by decide +kernel
theorem dX9_fill_169 : decode cX9_fill 169 = .ok (.iconst 0, 1) := by decide +kernel
theorem dX9_fill_170 : decode cX9_fill 170 = .ok (.istore 6, 2) := by decide +kernel
theorem dX9_fill_172 : decode cX9_fill 172 = .ok (.iload 6, 2) := by decide +kernel
theorem dX9_fill_174 : decode cX9_fill 174 = .ok (.iload 5, 2) := by decide +kernel
theorem dX9_fill_176 : decode cX9_fill 176 = .ok (.if_icmp .ge 83, 3) := by decide +kernel
theorem dX9_fill_179 : decode cX9_fill 179 = .ok (.iload 4, 2) := by decide +kernel
theorem dX9_fill_181 : decode cX9_fill 181 = .ok (.iload 6, 2) := by decide +kernel
theorem dX9_fill_183 : decode cX9_fill 183 = .ok (.invokestatic 363, 3) := by decide +kernel
theorem dX9_fill_186 : decode cX9_fill 186 = .ok (.ifCond .ne 67, 3) := by decide +kernel
theorem dX9_fill_189 : decode cX9_fill 189 = .ok (.aload_n 0, 1) := by decide +kernel
theorem dX9_fill_190 : decode cX9_fill 190 = .ok (.iload_n 3, 1) := by decide +kernel
theorem dX9_fill_191 : decode cX9_fill 191 = .ok (.iload 6, 2) := by decide +kernel
theorem dX9_fill_193 : decode cX9_fill 193 = .ok (.invokevirtual 366, 3) := by decide +kernel
theorem dX9_fill_196 : decode cX9_fill 196 = .ok (.ifCond .eq 57, 3) := by decide +kernel
theorem dX9_fill_199 : decode cX9_fill 199 = .ok (.aload_n 0, 1) := by decide +kernel
theorem dX9_fill_200 : decode cX9_fill 200 = .ok (.iload 5, 2) := by decide +kernel
theorem dX9_fill_202 : decode cX9_fill 202 = .ok (.iload 6, 2) := by decide +kernel
theorem dX9_fill_204 : decode cX9_fill 204 = .ok (.invokevirtual 373, 3) := by decide +kernel
theorem dX9_fill_207 : decode cX9_fill 207 = .ok (.ifCond .eq 46, 3) := by decide +kernel
theorem dX9_fill_210 : decode cX9_fill 210 = .ok (.aload_n 0, 1) := by decide +kernel
theorem dX9_fill_211 : decode cX9_fill 211 = .ok (.iload 4, 2) := by decide +kernel
theorem dX9_fill_213 : decode cX9_fill 213 = .ok (.iload 4, 2) := by decide +kernel
theorem dX9_fill_215 : decode cX9_fill 215 = .ok (.iconst 1, 1) := by decide +kernel
theorem dX9_fill_216 : decode cX9_fill 216 = .ok (.iload 5, 2) := by decide +kernel
theorem dX9_fill_218 : decode cX9_fill 218 = .ok (.ishl, 1) := by decide +kernel
theorem dX9_fill_219 : decode cX9_fill 219 = .ok (.ior, 1) := by decide +kernel
theorem dX9_fill_220 : decode cX9_fill 220 = .ok (.iconst 1, 1) := by decide +kernel
theorem dX9_fill_221 : decode cX9_fill 221 = .ok (.iload 6, 2) := by decide +kernel
theorem dX9_fill_223 : decode cX9_fill 223 = .ok (.ishl, 1) := by decide +kernel
theorem dX9_fill_224 : decode cX9_fill 224 = .ok (.ior, 1) := by decide +kernel
theorem dX9_fill_225 : decode cX9_fill 225 = .ok (.aload_n 0, 1) := by decide +kernel
theorem dX9_fill_226 : decode cX9_fill 226 = .ok (.getfield 92, 3) := by decide +kernel
theorem dX9_fill_229 : decode cX9_fill 229 = .ok (.bipush 8, 2) := by decide +kernel
theorem dX9_fill_231 : decode cX9_fill 231 = .ok (.iload_n 3, 1) := by decide +kernel
theorem dX9_fill_232 : decode cX9_fill 232 = .ok (.imul, 1) := by decide +kernel
theorem dX9_fill_233 : decode cX9_fill 233 = .ok (.iload 5, 2) := by decide +kernel
theorem dX9_fill_235 : decode cX9_fill 235 = .ok (.iadd, 1) := by decide +kernel
theorem dX9_fill_236 : decode cX9_fill 236 = .ok (.iaload, 1) := by decide +kernel
theorem dX9_fill_237 : decode cX9_fill 237 = .ok (.aload_n 0, 1) := by decide +kernel
theorem dX9_fill_238 : decode cX9_fill 238 = .ok (.getfield 92, 3) := by decide +kernel
theorem dX9_fill_241 : decode cX9_fill 241 = .ok (.bipush 8, 2) := by decide +kernel
theorem dX9_fill_243 : decode cX9_fill 243 = .ok (.iload_n 3, 1) := by decide +kernel
theorem dX9_fill_244 : decode cX9_fill 244 = .ok (.imul, 1) := by decide +kernel
theorem dX9_fill_245 : decode cX9_fill 245 = .ok (.iload 6, 2) := by decide +kernel
theorem dX9_fill_247 : decode cX9_fill 247 = .ok (.iadd, 1) := by decide +kernel
theorem dX9_fill_248 : decode cX9_fill 248 = .ok (.iaload, 1) := by decide +kernel
theorem dX9_fill_249 : decode cX9_fill 249 = .ok (.iadd, 1) := by decide +kernel
theorem dX9_fill_250 : decode cX9_fill 250 = .ok (.invokevirtual 369, 3) := by decide +kernel
theorem dX9_fill_253 : decode cX9_fill 253 = .ok (.iinc 6 1, 3) := by decide +kernel
theorem dX9_fill_256 : decode cX9_fill 256 = .ok (.goto (-84), 3) := by decide +kernel
theorem dX9_fill_259 : decode cX9_fill 259 = .ok (.iinc 5 1, 3) := by decide +kernel
theorem dX9_fill_262 : decode cX9_fill 262 = .ok (.goto (-154), 3) := by decide +kernel
theorem dX9_fill_265 : decode cX9_fill 265 = .ok (.iinc 4 (-1), 3) := by decide +kernel
theorem dX9_fill_268 : decode cX9_fill 268 = .ok (.goto (-168), 3) := by decide +kernel
theorem dX9_fill_271 : decode cX9_fill 271 = .ok (.iinc 3 1, 3) := by decide +kernel
theorem dX9_fill_274 : decode cX9_fill 274 = .ok (.goto (-203), 3) := by decide +kernel
theorem dX9_fill_277 : decode cX9_fill 277 = .ok (.iconst 1, 1) := by decide +kernel
theorem dX9_fill_278 : decode cX9_fill 278 = .ok (.iload_n 2, 1) := by decide +kernel
theorem dX9_fill_279 : decode cX9_fill 279 = .ok (.ishl, 1) := by decide +kernel
theorem dX9_fill_280 : decode cX9_fill 280 = .ok (.iconst 1, 1) := by decide +kernel
theorem dX9_fill_281 : decode cX9_fill 281 = .ok (.isub, 1) := by decide +kernel
theorem dX9_fill_282 : decode cX9_fill 282 = .ok (.istore_n 3, 1) := by decide +kernel
theorem dX9_fill_283 : decode cX9_fill 283 = .ok (.aload_n 0, 1) := by decide +kernel
theorem dX9_fill_284 : decode cX9_fill 284 = .ok (.aload_n 0, 1) := by decide +kernel
theorem dX9_fill_285 : decode cX9_fill 285 = .ok (.getfield 95, 3) := by decide +kernel
theorem dX9_fill_288 : decode cX9_fill 288 = .ok (.iload_n 3, 1) := by decide +kernel
theorem dX9_fill_289 : decode cX9_fill 289 = .ok (.iaload, 1) := by decide +kernel
theorem dX9_fill_290 : decode cX9_fill 290 = .ok (.putfield 376, 3) := by decide +kernel
theorem dX9_fill_293 : decode cX9_fill 293 = .ok (.aload_n 0, 1) := by decide +kernel
theorem dX9_fill_294 : decode cX9_fill 294 = .ok (.aload_n 0, 1) := by decide +kernel
theorem dX9_fill_295 : decode cX9_fill 295 = .ok (.getfield 98, 3) := by decide +kernel
theorem dX9_fill_298 : decode cX9_fill 298 = .ok (.iload_n 3, 1) := by decide +kernel
theorem dX9_fill_299 : decode cX9_fill 299 = .ok (.iaload, 1) := by decide +kernel
theorem dX9_fill_300 : decode cX9_fill 300 = .ok (.putfield 379, 3) := by decide +kernel
theorem dX9_fill_303 : decode cX9_fill 303 = .ok (.aload_n 0, 1) := by decide +kernel
theorem dX9_fill_304 : decode cX9_fill 304 = .ok (.aload_n 0, 1) := by decide +kernel
theorem dX9_fill_305 : decode cX9_fill 305 = .ok (.getfield 101, 3) := by decide +kernel
theorem dX9_fill_308 : decode cX9_fill 308 = .ok (.iload_n 3, 1) := by decide +kernel
theorem dX9_fill_309 : decode cX9_fill 309 = .ok (.iaload, 1) := by decide +kernel
theorem dX9_fill_310 : decode cX9_fill 310 = .ok (.putfield 382, 3) := by decide +kernel
theorem dX9_fill_313 : decode cX9_fill 313 = .ok (.return_, 1) := by decide +kernel
def bX9_fill_0 (l : Launch) (E : Ev) (d : Nat) (Q : Option Value → Hp → Prop) : Kt := k_push (.int 0) (k_istore 2 (Go l E YX9_fill (d + 1) 0 0 Q 0 0 2))
set_option maxRecDepth 100000 in
set_option maxHeartbeats 4000000 in
theorem gX9_fill_0 {l : Launch} {E : Ev} {d : Nat} {Q : Option Value → Hp → Prop} {ls : Lv} {st : List Value} {h : Hp} (hB : bX9_fill_0 l E d Q ls st h) : Go l E YX9_fill (d + 1) 0 0 Q 0 0 0 ls st h :=
  (sd_iconst (v := 0) (by decide) dX9_fill_0 (sd_istore_n (i := 2) rfl (by decide) dX9_fill_1 (Sd.go)) : Sd l E YX9_fill (d + 1) 0 0 Q 0 0 0 (bX9_fill_0 l E d Q)) ls st h hB
def bX9_fill_2 (l : Launch) (E : Ev) (d : Nat) (Q : Option Value → Hp → Prop) : Kt := k_iload 2 (k_push (.int 256) (k_icmp_ge (k_aload 0 (k_getR 9 55 3 (k_push (.int 1) (k_iaload (k_istore 2 (k_push (.int 0) (k_istore 3 (Go l E YX9_fill (d + 1) 0 0 Q 0 0 71)))))))) (k_aload 0 (k_getR 9 55 37 (k_iload 2 (k_iload 2 (k_if_ne (k_push (.int 1000000) (Go l E YX9_fill (d + 1) 0 0 Q 0 0 25)) (k_push (.int 0) (Go l E YX9_fill (d + 1) 0 0 Q 0 0 25)))))))))
set_option maxRecDepth 100000 in
set_option maxHeartbeats 4000000 in
theorem gX9_fill_2 {l : Launch} {E : Ev} {d : Nat} {Q : Option Value → Hp → Prop} {ls : Lv} {st : List Value} {h : Hp} (hB : bX9_fill_2 l E d Q ls st h) : Go l E YX9_fill (d + 1) 0 0 Q 0 0 2 ls st h :=
  (sd_iload_n (i := 2) rfl dX9_fill_2 (sd_sipush (v := 256) (by decide) dX9_fill_3 (sd_icmp_ge (tgt := 62) (by decide) dX9_fill_6 (sd_aload_n (i := 0) rfl dX9_fill_62 (sd_getR clsX9 (f := 3) (by decide) (fun _ _ _ => rfl) mw_1181 dX9_fill_63 (sd_iconst (v := 1) (by decide) dX9_fill_66 (sd_iaload dX9_fill_67 (sd_istore_n (i := 2) rfl (by decide) dX9_fill_68 (sd_iconst (v := 0) (by decide) dX9_fill_69 (sd_istore_n (i := 3) rfl (by decide) dX9_fill_70 (Sd.go)))))))) (sd_aload_n (i := 0) rfl dX9_fill_9 (sd_getR clsX9 (f := 37) (by decide) (fun _ _ _ => rfl) mw_1215 dX9_fill_10 (sd_iload_n (i := 2) rfl dX9_fill_13 (sd_iload_n (i := 2) rfl dX9_fill_14 (sd_if_ne (tgt := 22) (by decide) dX9_fill_15 (sd_ldcw (v := 1000000) mw_1602 dX9_fill_22 (Sd.go)) (sd_iconst (v := 0) (by decide) dX9_fill_18 (sd_goto (tgt := 25) (by decide) dX9_fill_19 (Sd.go)))))))))) : Sd l E YX9_fill (d + 1) 0 0 Q 0 0 2 (bX9_fill_2 l E d Q)) ls st h hB
def bX9_fill_25 (l : Launch) (E : Ev) (d : Nat) (Q : Option Value → Hp → Prop) : Kt := k_iastore (k_aload 0 (k_getR 9 55 38 (k_iload 2 (k_iload 2 (k_if_ne (k_push (.int 0) (Go l E YX9_fill (d + 1) 0 0 Q 0 0 40)) (k_push (.int 1) (Go l E YX9_fill (d + 1) 0 0 Q 0 0 40)))))))
set_option maxRecDepth 100000 in
set_option maxHeartbeats 4000000 in
theorem gX9_fill_25 {l : Launch} {E : Ev} {d : Nat} {Q : Option Value → Hp → Prop} {ls : Lv} {st : List Value} {h : Hp} (hB : bX9_fill_25 l E d Q ls st h) : Go l E YX9_fill (d + 1) 0 0 Q 0 0 25 ls st h :=
  (sd_iastore dX9_fill_25 (sd_aload_n (i := 0) rfl dX9_fill_26 (sd_getR clsX9 (f := 38) (by decide) (fun _ _ _ => rfl) mw_1216 dX9_fill_27 (sd_iload_n (i := 2) rfl dX9_fill_30 (sd_iload_n (i := 2) rfl dX9_fill_31 (sd_if_ne (tgt := 39) (by decide) dX9_fill_32 (sd_iconst (v := 0) (by decide) dX9_fill_39 (Sd.go)) (sd_iconst (v := 1) (by decide) dX9_fill_35 (sd_goto (tgt := 40) (by decide) dX9_fill_36 (Sd.go)))))))) : Sd l E YX9_fill (d + 1) 0 0 Q 0 0 25 (bX9_fill_25 l E d Q)) ls st h hB
def bX9_fill_40 (l : Launch) (E : Ev) (d : Nat) (Q : Option Value → Hp → Prop) : Kt := k_iastore (k_aload 0 (k_getR 9 55 39 (k_iload 2 (k_iload 2 (k_if_ne (k_push (.int 0) (k_iastore (k_iinc 2 1 (Go l E YX9_fill (d + 1) 0 0 Q 0 0 2)))) (k_push (.int 1) (k_iastore (k_iinc 2 1 (Go l E YX9_fill (d + 1) 0 0 Q 0 0 2)))))))))
set_option maxRecDepth 100000 in
set_option maxHeartbeats 4000000 in
theorem gX9_fill_40 {l : Launch} {E : Ev} {d : Nat} {Q : Option Value → Hp → Prop} {ls : Lv} {st : List Value} {h : Hp} (hB : bX9_fill_40 l E d Q ls st h) : Go l E YX9_fill (d + 1) 0 0 Q 0 0 40 ls st h :=
  (sd_iastore dX9_fill_40 (sd_aload_n (i := 0) rfl dX9_fill_41 (sd_getR clsX9 (f := 39) (by decide) (fun _ _ _ => rfl) mw_1217 dX9_fill_42 (sd_iload_n (i := 2) rfl dX9_fill_45 (sd_iload_n (i := 2) rfl dX9_fill_46 (sd_if_ne (tgt := 54) (by decide) dX9_fill_47 (sd_iconst (v := 0) (by decide) dX9_fill_54 (sd_iastore dX9_fill_55 (sd_iinc (i := 2) (v := 1) (by decide) (by decide) dX9_fill_56 (sd_goto (tgt := 2) (by decide) dX9_fill_59 (Sd.go))))) (sd_iconst (v := 1) (by decide) dX9_fill_50 (sd_goto (tgt := 55) (by decide) dX9_fill_51 (sd_iastore dX9_fill_55 (sd_iinc (i := 2) (v := 1) (by decide) (by decide) dX9_fill_56 (sd_goto (tgt := 2) (by decide) dX9_fill_59 (Sd.go))))))))))) : Sd l E YX9_fill (d + 1) 0 0 Q 0 0 40 (bX9_fill_40 l E d Q)) ls st h hB
def bX9_fill_71 (l : Launch) (E : Ev) (d : Nat) (Q : Option Value → Hp → Prop) : Kt := k_iload 3 (k_aload 0 (k_getR 9 55 3 (k_push (.int 0) (k_iaload (k_icmp_ge (k_push (.int 1) (k_iload 2 (k_ishl (k_push (.int 1) (k_isub (k_istore 3 (k_aload 0 (k_aload 0 (k_getR 9 55 37 (k_iload 3 (k_iaload (k_putI 9 55 41 (k_aload 0 (k_aload 0 (k_getR 9 55 38 (k_iload 3 (k_iaload (k_putI 9 55 42 (k_aload 0 (k_aload 0 (k_getR 9 55 39 (k_iload 3 (k_iaload (k_putI 9 55 43 (k_vret Q))))))))))))))))))))))))) (k_iload 1 (k_iload 3 (k_callS l E YX9_is d 0 0 2 (k_if_eq (k_push (.int 1) (k_iload 2 (k_ishl (k_push (.int 1) (k_isub (k_istore 4 (Go l E YX9_fill (d + 1) 0 0 Q 0 0 100))))))) (k_push (.int (-1)) (k_istore 4 (Go l E YX9_fill (d + 1) 0 0 Q 0 0 100))))))))))))
set_option maxRecDepth 100000 in
set_option maxHeartbeats 4000000 in
theorem gX9_fill_71 {l : Launch} {E : Ev} {d : Nat} {Q : Option Value → Hp → Prop} {ls : Lv} {st : List Value} {h : Hp} (hB : bX9_fill_71 l E d Q ls st h) : Go l E YX9_fill (d + 1) 0 0 Q 0 0 71 ls st h :=
  (sd_iload_n (i := 3) rfl dX9_fill_71 (sd_aload_n (i := 0) rfl dX9_fill_72 (sd_getR clsX9 (f := 3) (by decide) (fun _ _ _ => rfl) mw_1181 dX9_fill_73 (sd_iconst (v := 0) (by decide) dX9_fill_76 (sd_iaload dX9_fill_77 (sd_icmp_ge (tgt := 277) (by decide) dX9_fill_78 (sd_iconst (v := 1) (by decide) dX9_fill_277 (sd_iload_n (i := 2) rfl dX9_fill_278 (sd_ishl dX9_fill_279 (sd_iconst (v := 1) (by decide) dX9_fill_280 (sd_isub dX9_fill_281 (sd_istore_n (i := 3) rfl (by decide) dX9_fill_282 (sd_aload_n (i := 0) rfl dX9_fill_283 (sd_aload_n (i := 0) rfl dX9_fill_284 (sd_getR clsX9 (f := 37) (by decide) (fun _ _ _ => rfl) mw_1215 dX9_fill_285 (sd_iload_n (i := 3) rfl dX9_fill_288 (sd_iaload dX9_fill_289 (sd_putI clsX9 (f := 41) (by decide) (fun _ _ _ => rfl) rfl (Or.inl rfl) mw_1219 dX9_fill_290 (sd_aload_n (i := 0) rfl dX9_fill_293 (sd_aload_n (i := 0) rfl dX9_fill_294 (sd_getR clsX9 (f := 38) (by decide) (fun _ _ _ => rfl) mw_1216 dX9_fill_295 (sd_iload_n (i := 3) rfl dX9_fill_298 (sd_iaload dX9_fill_299 (sd_putI clsX9 (f := 42) (by decide) (fun _ _ _ => rfl) rfl (Or.inl rfl) mw_1220 dX9_fill_300 (sd_aload_n (i := 0) rfl dX9_fill_303 (sd_aload_n (i := 0) rfl dX9_fill_304 (sd_getR clsX9 (f := 39) (by decide) (fun _ _ _ => rfl) mw_1217 dX9_fill_305 (sd_iload_n (i := 3) rfl dX9_fill_308 (sd_iaload dX9_fill_309 (sd_putI clsX9 (f := 43) (by decide) (fun _ _ _ => rfl) rfl (Or.inl rfl) mw_1221 dX9_fill_310 (sd_vret rfl (by decide) (by decide) dX9_fill_313))))))))))))))))))))))))) (sd_iload_n (i := 1) rfl dX9_fill_81 (sd_iload_n (i := 3) rfl dX9_fill_82 (sd_callS (Y' := YX9_is) (mc' := 0) (ms' := 0) (n := 2) mw_1603 mw_1604 mw_108 mw_1605 (okmX9_is) (by decide) (Nat.le_refl _) (by decide) (by decide) dX9_fill_83 (sd_if_eq (tgt := 93) (by decide) dX9_fill_86 (sd_iconst (v := 1) (by decide) dX9_fill_93 (sd_iload_n (i := 2) rfl dX9_fill_94 (sd_ishl dX9_fill_95 (sd_iconst (v := 1) (by decide) dX9_fill_96 (sd_isub dX9_fill_97 (sd_istore (i := 4) (by decide) dX9_fill_98 (Sd.go))))))) (sd_iconst (v := (-1)) (by decide) dX9_fill_89 (sd_goto (tgt := 98) (by decide) dX9_fill_90 (sd_istore (i := 4) (by decide) dX9_fill_98 (Sd.go))))))))))))) : Sd l E YX9_fill (d + 1) 0 0 Q 0 0 71 (bX9_fill_71 l E d Q)) ls st h hB
def bX9_fill_100 (l : Launch) (E : Ev) (d : Nat) (Q : Option Value → Hp → Prop) : Kt := k_iload 4 (k_if_lt (k_iinc 3 1 (Go l E YX9_fill (d + 1) 0 0 Q 0 0 71)) (k_push (.int 0) (k_istore 5 (Go l E YX9_fill (d + 1) 0 0 Q 0 0 108))))
set_option maxRecDepth 100000 in
set_option maxHeartbeats 4000000 in
theorem gX9_fill_100 {l : Launch} {E : Ev} {d : Nat} {Q : Option Value → Hp → Prop} {ls : Lv} {st : List Value} {h : Hp} (hB : bX9_fill_100 l E d Q ls st h) : Go l E YX9_fill (d + 1) 0 0 Q 0 0 100 ls st h :=
  (sd_iload (n := 4) dX9_fill_100 (sd_if_lt (tgt := 271) (by decide) dX9_fill_102 (sd_iinc (i := 3) (v := 1) (by decide) (by decide) dX9_fill_271 (sd_goto (tgt := 71) (by decide) dX9_fill_274 (Sd.go))) (sd_iconst (v := 0) (by decide) dX9_fill_105 (sd_istore (i := 5) (by decide) dX9_fill_106 (Sd.go)))) : Sd l E YX9_fill (d + 1) 0 0 Q 0 0 100 (bX9_fill_100 l E d Q)) ls st h hB
def bX9_fill_108 (l : Launch) (E : Ev) (d : Nat) (Q : Option Value → Hp → Prop) : Kt := k_iload 5 (k_iload 2 (k_icmp_ge (k_iinc 4 (-1) (Go l E YX9_fill (d + 1) 0 0 Q 0 0 100)) (k_aload 0 (k_getR 9 55 39 (k_iload 4 (k_iaload (k_if_le (k_iinc 4 (-1) (Go l E YX9_fill (d + 1) 0 0 Q 0 0 100)) (k_iload 4 (k_iload 5 (k_callS l E YX9_is d 0 0 2 (k_if_ne (k_iinc 5 1 (Go l E YX9_fill (d + 1) 0 0 Q 0 0 108)) (k_aload 0 (k_iload 3 (k_iload 5 (k_callV l E 9 55 YX9_may d 0 0 2 (k_if_eq (k_iinc 5 1 (Go l E YX9_fill (d + 1) 0 0 Q 0 0 108)) (k_aload 0 (k_iload 4 (k_iload 4 (k_push (.int 1) (k_iload 5 (k_ishl (k_ior (k_aload 0 (k_getR 9 55 36 (k_push (.int 8) (k_iload 3 (k_imul (k_iload 5 (k_iadd (k_iaload (k_callV l E 9 55 YX9_reach d 0 0 3 (k_push (.int 0) (k_istore 6 (Go l E YX9_fill (d + 1) 0 0 Q 0 0 172)))))))))))))))))))))))))))))))))))
set_option maxRecDepth 100000 in
set_option maxHeartbeats 4000000 in
theorem gX9_fill_108 {l : Launch} {E : Ev} {d : Nat} {Q : Option Value → Hp → Prop} {ls : Lv} {st : List Value} {h : Hp} (hB : bX9_fill_108 l E d Q ls st h) : Go l E YX9_fill (d + 1) 0 0 Q 0 0 108 ls st h :=
  (sd_iload (n := 5) dX9_fill_108 (sd_iload_n (i := 2) rfl dX9_fill_110 (sd_icmp_ge (tgt := 265) (by decide) dX9_fill_111 (sd_iinc (i := 4) (v := (-1)) (by decide) (by decide) dX9_fill_265 (sd_goto (tgt := 100) (by decide) dX9_fill_268 (Sd.go))) (sd_aload_n (i := 0) rfl dX9_fill_114 (sd_getR clsX9 (f := 39) (by decide) (fun _ _ _ => rfl) mw_1217 dX9_fill_115 (sd_iload (n := 4) dX9_fill_118 (sd_iaload dX9_fill_120 (sd_if_le (tgt := 265) (by decide) dX9_fill_121 (sd_iinc (i := 4) (v := (-1)) (by decide) (by decide) dX9_fill_265 (sd_goto (tgt := 100) (by decide) dX9_fill_268 (Sd.go))) (sd_iload (n := 4) dX9_fill_124 (sd_iload (n := 5) dX9_fill_126 (sd_callS (Y' := YX9_is) (mc' := 0) (ms' := 0) (n := 2) mw_1603 mw_1604 mw_108 mw_1605 (okmX9_is) (by decide) (Nat.le_refl _) (by decide) (by decide) dX9_fill_128 (sd_if_ne (tgt := 259) (by decide) dX9_fill_131 (sd_iinc (i := 5) (v := 1) (by decide) (by decide) dX9_fill_259 (sd_goto (tgt := 108) (by decide) dX9_fill_262 (Sd.go))) (sd_aload_n (i := 0) rfl dX9_fill_134 (sd_iload_n (i := 3) rfl dX9_fill_135 (sd_iload (n := 5) dX9_fill_136 (sd_callV (Y' := YX9_may) (mc' := 0) (ms' := 0) (n := 2) clsX9.1 mw_1606 mw_1608 mw_80 mw_108 mw_1609 rfl (okmX9_may) (by decide) (Nat.le_refl _) (by decide) (by decide) dX9_fill_138 (sd_if_eq (tgt := 259) (by decide) dX9_fill_141 (sd_iinc (i := 5) (v := 1) (by decide) (by decide) dX9_fill_259 (sd_goto (tgt := 108) (by decide) dX9_fill_262 (Sd.go))) (sd_aload_n (i := 0) rfl dX9_fill_144 (sd_iload (n := 4) dX9_fill_145 (sd_iload (n := 4) dX9_fill_147 (sd_iconst (v := 1) (by decide) dX9_fill_149 (sd_iload (n := 5) dX9_fill_150 (sd_ishl dX9_fill_152 (sd_ior dX9_fill_153 (sd_aload_n (i := 0) rfl dX9_fill_154 (sd_getR clsX9 (f := 36) (by decide) (fun _ _ _ => rfl) mw_1214 dX9_fill_155 (sd_bipush (v := 8) (by decide) dX9_fill_158 (sd_iload_n (i := 3) rfl dX9_fill_160 (sd_imul dX9_fill_161 (sd_iload (n := 5) dX9_fill_162 (sd_iadd dX9_fill_164 (sd_iaload dX9_fill_165 (sd_callV (Y' := YX9_reach) (mc' := 0) (ms' := 0) (n := 3) clsX9.1 mw_1610 mw_1612 mw_81 mw_108 mw_1613 rfl (okmX9_reach) (by decide) (Nat.le_refl _) (by decide) (by decide) dX9_fill_166 (sd_iconst (v := 0) (by decide) dX9_fill_169 (sd_istore (i := 6) (by decide) dX9_fill_170 (Sd.go))))))))))))))))))))))))))))))))))) : Sd l E YX9_fill (d + 1) 0 0 Q 0 0 108 (bX9_fill_108 l E d Q)) ls st h hB
def bX9_fill_172 (l : Launch) (E : Ev) (d : Nat) (Q : Option Value → Hp → Prop) : Kt := k_iload 6 (k_iload 5 (k_icmp_ge (k_iinc 5 1 (Go l E YX9_fill (d + 1) 0 0 Q 0 0 108)) (k_iload 4 (k_iload 6 (k_callS l E YX9_is d 0 0 2 (k_if_ne (k_iinc 6 1 (Go l E YX9_fill (d + 1) 0 0 Q 0 0 172)) (k_aload 0 (k_iload 3 (k_iload 6 (k_callV l E 9 55 YX9_may d 0 0 2 (k_if_eq (k_iinc 6 1 (Go l E YX9_fill (d + 1) 0 0 Q 0 0 172)) (k_aload 0 (k_iload 5 (k_iload 6 (k_callV l E 9 55 YX9_canDouble d 0 0 2 (k_if_eq (k_iinc 6 1 (Go l E YX9_fill (d + 1) 0 0 Q 0 0 172)) (k_aload 0 (k_iload 4 (k_iload 4 (k_push (.int 1) (k_iload 5 (k_ishl (k_ior (k_push (.int 1) (k_iload 6 (k_ishl (k_ior (k_aload 0 (k_getR 9 55 36 (k_push (.int 8) (k_iload 3 (k_imul (k_iload 5 (k_iadd (k_iaload (k_aload 0 (k_getR 9 55 36 (k_push (.int 8) (k_iload 3 (k_imul (k_iload 6 (k_iadd (k_iaload (k_iadd (k_callV l E 9 55 YX9_reach d 0 0 3 (k_iinc 6 1 (Go l E YX9_fill (d + 1) 0 0 Q 0 0 172)))))))))))))))))))))))))))))))))))))))))))))))
set_option maxRecDepth 100000 in
set_option maxHeartbeats 4000000 in
theorem gX9_fill_172 {l : Launch} {E : Ev} {d : Nat} {Q : Option Value → Hp → Prop} {ls : Lv} {st : List Value} {h : Hp} (hB : bX9_fill_172 l E d Q ls st h) : Go l E YX9_fill (d + 1) 0 0 Q 0 0 172 ls st h :=
  (sd_iload (n := 6) dX9_fill_172 (sd_iload (n := 5) dX9_fill_174 (sd_icmp_ge (tgt := 259) (by decide) dX9_fill_176 (sd_iinc (i := 5) (v := 1) (by decide) (by decide) dX9_fill_259 (sd_goto (tgt := 108) (by decide) dX9_fill_262 (Sd.go))) (sd_iload (n := 4) dX9_fill_179 (sd_iload (n := 6) dX9_fill_181 (sd_callS (Y' := YX9_is) (mc' := 0) (ms' := 0) (n := 2) mw_1603 mw_1604 mw_108 mw_1605 (okmX9_is) (by decide) (Nat.le_refl _) (by decide) (by decide) dX9_fill_183 (sd_if_ne (tgt := 253) (by decide) dX9_fill_186 (sd_iinc (i := 6) (v := 1) (by decide) (by decide) dX9_fill_253 (sd_goto (tgt := 172) (by decide) dX9_fill_256 (Sd.go))) (sd_aload_n (i := 0) rfl dX9_fill_189 (sd_iload_n (i := 3) rfl dX9_fill_190 (sd_iload (n := 6) dX9_fill_191 (sd_callV (Y' := YX9_may) (mc' := 0) (ms' := 0) (n := 2) clsX9.1 mw_1606 mw_1608 mw_80 mw_108 mw_1609 rfl (okmX9_may) (by decide) (Nat.le_refl _) (by decide) (by decide) dX9_fill_193 (sd_if_eq (tgt := 253) (by decide) dX9_fill_196 (sd_iinc (i := 6) (v := 1) (by decide) (by decide) dX9_fill_253 (sd_goto (tgt := 172) (by decide) dX9_fill_256 (Sd.go))) (sd_aload_n (i := 0) rfl dX9_fill_199 (sd_iload (n := 5) dX9_fill_200 (sd_iload (n := 6) dX9_fill_202 (sd_callV (Y' := YX9_canDouble) (mc' := 0) (ms' := 0) (n := 2) clsX9.1 mw_1618 mw_1620 mw_82 mw_108 mw_1621 rfl (okmX9_canDouble) (by decide) (Nat.le_refl _) (by decide) (by decide) dX9_fill_204 (sd_if_eq (tgt := 253) (by decide) dX9_fill_207 (sd_iinc (i := 6) (v := 1) (by decide) (by decide) dX9_fill_253 (sd_goto (tgt := 172) (by decide) dX9_fill_256 (Sd.go))) (sd_aload_n (i := 0) rfl dX9_fill_210 (sd_iload (n := 4) dX9_fill_211 (sd_iload (n := 4) dX9_fill_213 (sd_iconst (v := 1) (by decide) dX9_fill_215 (sd_iload (n := 5) dX9_fill_216 (sd_ishl dX9_fill_218 (sd_ior dX9_fill_219 (sd_iconst (v := 1) (by decide) dX9_fill_220 (sd_iload (n := 6) dX9_fill_221 (sd_ishl dX9_fill_223 (sd_ior dX9_fill_224 (sd_aload_n (i := 0) rfl dX9_fill_225 (sd_getR clsX9 (f := 36) (by decide) (fun _ _ _ => rfl) mw_1214 dX9_fill_226 (sd_bipush (v := 8) (by decide) dX9_fill_229 (sd_iload_n (i := 3) rfl dX9_fill_231 (sd_imul dX9_fill_232 (sd_iload (n := 5) dX9_fill_233 (sd_iadd dX9_fill_235 (sd_iaload dX9_fill_236 (sd_aload_n (i := 0) rfl dX9_fill_237 (sd_getR clsX9 (f := 36) (by decide) (fun _ _ _ => rfl) mw_1214 dX9_fill_238 (sd_bipush (v := 8) (by decide) dX9_fill_241 (sd_iload_n (i := 3) rfl dX9_fill_243 (sd_imul dX9_fill_244 (sd_iload (n := 6) dX9_fill_245 (sd_iadd dX9_fill_247 (sd_iaload dX9_fill_248 (sd_iadd dX9_fill_249 (sd_callV (Y' := YX9_reach) (mc' := 0) (ms' := 0) (n := 3) clsX9.1 mw_1610 mw_1612 mw_81 mw_108 mw_1613 rfl (okmX9_reach) (by decide) (Nat.le_refl _) (by decide) (by decide) dX9_fill_250 (sd_iinc (i := 6) (v := 1) (by decide) (by decide) dX9_fill_253 (sd_goto (tgt := 172) (by decide) dX9_fill_256 (Sd.go)))))))))))))))))))))))))))))))))))))))))))))))) : Sd l E YX9_fill (d + 1) 0 0 Q 0 0 172 (bX9_fill_172 l E d Q)) ls st h hB
theorem eX9_fill {l : Launch} {E : Ev} {d : Nat} {Q : Option Value → Hp → Prop} {h : Hp} {a0 : Nat} {x1 : Int32} (hk : Go l E YX9_fill d 0 0 Q 0 0 0 [some (.ref a0), some (.int x1), none, none, none, none, none] [] h) : GoM l E YX9_fill d 0 0 [.ref a0, .int x1] h Q := GoM.of (by decide +kernel) rfl (by simp [entA, YX9_fill]) hk
theorem dX9_free_0 : decode cX9_free 0 = .ok (.iconst 0, 1) := by decide +kernel
theorem dX9_free_1 : decode cX9_free 1 = .ok (.istore_n 1, 1) := by decide +kernel
theorem dX9_free_2 : decode cX9_free 2 = .ok (.iload_n 1, 1) := by decide +kernel
theorem dX9_free_3 : decode cX9_free 3 = .ok (.bipush 8, 2) := by decide +kernel
theorem dX9_free_5 : decode cX9_free 5 = .ok (.if_icmp .ge 16, 3) := by decide +kernel
theorem dX9_free_8 : decode cX9_free 8 = .ok (.aload_n 0, 1) := by decide +kernel
theorem dX9_free_9 : decode cX9_free 9 = .ok (.getfield 104, 3) := by decide +kernel
theorem dX9_free_12 : decode cX9_free 12 = .ok (.iload_n 1, 1) := by decide +kernel
theorem dX9_free_13 : decode cX9_free 13 = .ok (.iconst (-1), 1) := by decide +kernel
theorem dX9_free_14 : decode cX9_free 14 = .ok (.iastore, 1) := by decide +kernel
theorem dX9_free_15 : decode cX9_free 15 = .ok (.iinc 1 1, 3) := by decide +kernel
theorem dX9_free_18 : decode cX9_free 18 = .ok (.goto (-16), 3) := by decide +kernel
theorem dX9_free_21 : decode cX9_free 21 = .ok (.return_, 1) := by decide +kernel
def bX9_free_0 (l : Launch) (E : Ev) (d : Nat) (Q : Option Value → Hp → Prop) : Kt := k_push (.int 0) (k_istore 1 (Go l E YX9_free (d + 1) 0 0 Q 0 0 2))
set_option maxRecDepth 100000 in
set_option maxHeartbeats 4000000 in
theorem gX9_free_0 {l : Launch} {E : Ev} {d : Nat} {Q : Option Value → Hp → Prop} {ls : Lv} {st : List Value} {h : Hp} (hB : bX9_free_0 l E d Q ls st h) : Go l E YX9_free (d + 1) 0 0 Q 0 0 0 ls st h :=
  (sd_iconst (v := 0) (by decide) dX9_free_0 (sd_istore_n (i := 1) rfl (by decide) dX9_free_1 (Sd.go)) : Sd l E YX9_free (d + 1) 0 0 Q 0 0 0 (bX9_free_0 l E d Q)) ls st h hB
def bX9_free_2 (l : Launch) (E : Ev) (d : Nat) (Q : Option Value → Hp → Prop) : Kt := k_iload 1 (k_push (.int 8) (k_icmp_ge (k_vret Q) (k_aload 0 (k_getR 9 55 40 (k_iload 1 (k_push (.int (-1)) (k_iastore (k_iinc 1 1 (Go l E YX9_free (d + 1) 0 0 Q 0 0 2)))))))))
set_option maxRecDepth 100000 in
set_option maxHeartbeats 4000000 in
theorem gX9_free_2 {l : Launch} {E : Ev} {d : Nat} {Q : Option Value → Hp → Prop} {ls : Lv} {st : List Value} {h : Hp} (hB : bX9_free_2 l E d Q ls st h) : Go l E YX9_free (d + 1) 0 0 Q 0 0 2 ls st h :=
  (sd_iload_n (i := 1) rfl dX9_free_2 (sd_bipush (v := 8) (by decide) dX9_free_3 (sd_icmp_ge (tgt := 21) (by decide) dX9_free_5 (sd_vret rfl (by decide) (by decide) dX9_free_21) (sd_aload_n (i := 0) rfl dX9_free_8 (sd_getR clsX9 (f := 40) (by decide) (fun _ _ _ => rfl) mw_1218 dX9_free_9 (sd_iload_n (i := 1) rfl dX9_free_12 (sd_iconst (v := (-1)) (by decide) dX9_free_13 (sd_iastore dX9_free_14 (sd_iinc (i := 1) (v := 1) (by decide) (by decide) dX9_free_15 (sd_goto (tgt := 2) (by decide) dX9_free_18 (Sd.go)))))))))) : Sd l E YX9_free (d + 1) 0 0 Q 0 0 2 (bX9_free_2 l E d Q)) ls st h hB
theorem eX9_free {l : Launch} {E : Ev} {d : Nat} {Q : Option Value → Hp → Prop} {h : Hp} {a0 : Nat} (hk : Go l E YX9_free d 0 0 Q 0 0 0 [some (.ref a0), none] [] h) : GoM l E YX9_free d 0 0 [.ref a0] h Q := GoM.of (by decide +kernel) rfl (by simp [entA, YX9_free]) hk
theorem dX9_findFirst_0 : decode cX9_findFirst 0 = .ok (.aload_n 0, 1) := by decide +kernel
theorem dX9_findFirst_1 : decode cX9_findFirst 1 = .ok (.iload_n 1, 1) := by decide +kernel
theorem dX9_findFirst_2 : decode cX9_findFirst 2 = .ok (.iconst 0, 1) := by decide +kernel
theorem dX9_findFirst_3 : decode cX9_findFirst 3 = .ok (.invokevirtual 385, 3) := by decide +kernel
theorem dX9_findFirst_6 : decode cX9_findFirst 6 = .ok (.ireturn, 1) := by decide +kernel
def bX9_findFirst_0 (l : Launch) (E : Ev) (d : Nat) (Q : Option Value → Hp → Prop) : Kt := k_aload 0 (k_iload 1 (k_push (.int 0) (k_callV l E 9 55 YX9_findNth d 0 0 2 (k_iret .boolean Q))))
set_option maxRecDepth 100000 in
set_option maxHeartbeats 4000000 in
theorem gX9_findFirst_0 {l : Launch} {E : Ev} {d : Nat} {Q : Option Value → Hp → Prop} {ls : Lv} {st : List Value} {h : Hp} (hB : bX9_findFirst_0 l E d Q ls st h) : Go l E YX9_findFirst (d + 1) 0 0 Q 0 0 0 ls st h :=
  (sd_aload_n (i := 0) rfl dX9_findFirst_0 (sd_iload_n (i := 1) rfl dX9_findFirst_1 (sd_iconst (v := 0) (by decide) dX9_findFirst_2 (sd_callV (Y' := YX9_findNth) (mc' := 0) (ms' := 0) (n := 2) clsX9.1 mw_1634 mw_1636 mw_85 mw_108 mw_1637 rfl (okmX9_findNth) (by decide) (Nat.le_refl _) (by decide) (by decide) dX9_findFirst_3 (sd_iret (ty := .boolean) rfl (by decide) (by decide) dX9_findFirst_6)))) : Sd l E YX9_findFirst (d + 1) 0 0 Q 0 0 0 (bX9_findFirst_0 l E d Q)) ls st h hB
theorem eX9_findFirst {l : Launch} {E : Ev} {d : Nat} {Q : Option Value → Hp → Prop} {h : Hp} {a0 : Nat} {x1 : Int32} (hk : Go l E YX9_findFirst d 0 0 Q 0 0 0 [some (.ref a0), some (.int x1)] [] h) : GoM l E YX9_findFirst d 0 0 [.ref a0, .int x1] h Q := GoM.of (by decide +kernel) rfl (by simp [entA, YX9_findFirst]) hk
theorem dX9_findNth_0 : decode cX9_findNth 0 = .ok (.aload_n 0, 1) := by decide +kernel
theorem dX9_findNth_1 : decode cX9_findNth 1 = .ok (.invokevirtual 388, 3) := by decide +kernel
theorem dX9_findNth_4 : decode cX9_findNth 4 = .ok (.aload_n 0, 1) := by decide +kernel
theorem dX9_findNth_5 : decode cX9_findNth 5 = .ok (.iload_n 1, 1) := by decide +kernel
theorem dX9_findNth_6 : decode cX9_findNth 6 = .ok (.invokevirtual 391, 3) := by decide +kernel
theorem dX9_findNth_9 : decode cX9_findNth 9 = .ok (.aload_n 0, 1) := by decide +kernel
theorem dX9_findNth_10 : decode cX9_findNth 10 = .ok (.getfield 376, 3) := by decide +kernel
theorem dX9_findNth_13 : decode cX9_findNth 13 = .ok (.istore_n 3, 1) := by decide +kernel
theorem dX9_findNth_14 : decode cX9_findNth 14 = .ok (.aload_n 0, 1) := by decide +kernel
theorem dX9_findNth_15 : decode cX9_findNth 15 = .ok (.getfield 379, 3) := by decide +kernel
theorem dX9_findNth_18 : decode cX9_findNth 18 = .ok (.istore 4, 2) := by decide +kernel
theorem dX9_findNth_20 : decode cX9_findNth 20 = .ok (.aload_n 0, 1) := by decide +kernel
theorem dX9_findNth_21 : decode cX9_findNth 21 = .ok (.getfield 382, 3) := by decide +kernel
theorem dX9_findNth_24 : decode cX9_findNth 24 = .ok (.istore 5, 2) := by decide +kernel
theorem dX9_findNth_26 : decode cX9_findNth 26 = .ok (.iload 5, 2) := by decide +kernel
theorem dX9_findNth_28 : decode cX9_findNth 28 = .ok (.ifCond .eq 9, 3) := by decide +kernel
theorem dX9_findNth_31 : decode cX9_findNth 31 = .ok (.iload_n 2, 1) := by decide +kernel
theorem dX9_findNth_32 : decode cX9_findNth 32 = .ok (.iload 4, 2) := by decide +kernel
theorem dX9_findNth_34 : decode cX9_findNth 34 = .ok (.if_icmp .lt 5, 3) := by decide +kernel
theorem dX9_findNth_37 : decode cX9_findNth 37 = .ok (.iconst 0, 1) := by decide +kernel
theorem dX9_findNth_38 : decode cX9_findNth 38 = .ok (.ireturn, 1) := by decide +kernel
theorem dX9_findNth_39 : decode cX9_findNth 39 = .ok (.iload_n 2, 1) := by decide +kernel
theorem dX9_findNth_40 : decode cX9_findNth 40 = .ok (.istore 6, 2) := by decide +kernel
theorem dX9_findNth_42 : decode cX9_findNth 42 = .ok (.iconst 0, 1) := by decide +kernel
theorem dX9_findNth_43 : decode cX9_findNth 43 = .ok (.istore 7, 2) := by decide +kernel
theorem dX9_findNth_45 : decode cX9_findNth 45 = .ok (.iload 7, 2) := by decide +kernel
theorem dX9_findNth_47 : decode cX9_findNth 47 = .ok (.aload_n 0, 1) := by decide +kernel
theorem dX9_findNth_48 : decode cX9_findNth 48 = .ok (.getfield 13, 3) := by decide +kernel
theorem dX9_findNth_51 : decode cX9_findNth 51 = .ok (.iconst 1, 1) := by decide +kernel
theorem dX9_findNth_52 : decode cX9_findNth 52 = .ok (.iaload, 1) := by decide +kernel
theorem dX9_findNth_53 : decode cX9_findNth 53 = .ok (.if_icmp .ge 107, 3) := by decide +kernel
theorem dX9_findNth_56 : decode cX9_findNth 56 = .ok (.iconst 0, 1) := by decide +kernel
theorem dX9_findNth_57 : decode cX9_findNth 57 = .ok (.istore 8, 2) := by decide +kernel
theorem dX9_findNth_59 : decode cX9_findNth 59 = .ok (.aload_n 0, 1) := by decide +kernel
theorem dX9_findNth_60 : decode cX9_findNth 60 = .ok (.getfield 104, 3) := by decide +kernel
theorem dX9_findNth_63 : decode cX9_findNth 63 = .ok (.iload 7, 2) := by decide +kernel
theorem dX9_findNth_65 : decode cX9_findNth 65 = .ok (.iload 8, 2) := by decide +kernel
theorem dX9_findNth_67 : decode cX9_findNth 67 = .ok (.iastore, 1) := by decide +kernel
theorem dX9_findNth_68 : decode cX9_findNth 68 = .ok (.aload_n 0, 1) := by decide +kernel
theorem dX9_findNth_69 : decode cX9_findNth 69 = .ok (.iload_n 1, 1) := by decide +kernel
theorem dX9_findNth_70 : decode cX9_findNth 70 = .ok (.invokevirtual 391, 3) := by decide +kernel
theorem dX9_findNth_73 : decode cX9_findNth 73 = .ok (.aload_n 0, 1) := by decide +kernel
theorem dX9_findNth_74 : decode cX9_findNth 74 = .ok (.getfield 382, 3) := by decide +kernel
theorem dX9_findNth_77 : decode cX9_findNth 77 = .ok (.ifCond .eq 20, 3) := by decide +kernel
theorem dX9_findNth_80 : decode cX9_findNth 80 = .ok (.aload_n 0, 1) := by decide +kernel
theorem dX9_findNth_81 : decode cX9_findNth 81 = .ok (.getfield 376, 3) := by decide +kernel
theorem dX9_findNth_84 : decode cX9_findNth 84 = .ok (.iload_n 3, 1) := by decide +kernel
theorem dX9_findNth_85 : decode cX9_findNth 85 = .ok (.if_icmp .ne 12, 3) := by decide +kernel
theorem dX9_findNth_88 : decode cX9_findNth 88 = .ok (.iload 6, 2) := by decide +kernel
theorem dX9_findNth_90 : decode cX9_findNth 90 = .ok (.aload_n 0, 1) := by decide +kernel
theorem dX9_findNth_91 : decode cX9_findNth 91 = .ok (.getfield 379, 3) := by decide +kernel
theorem dX9_findNth_94 : decode cX9_findNth 94 = .ok (.if_icmp .lt 51, 3) := by decide +kernel
theorem dX9_findNth_97 : decode cX9_findNth 97 = .ok (.iload 6, 2) := by decide +kernel
theorem dX9_findNth_99 : decode cX9_findNth 99 = .ok (.aload_n 0, 1) := by decide +kernel
theorem dX9_findNth_100 : decode cX9_findNth 100 = .ok (.getfield 382, 3) := by decide +kernel
theorem dX9_findNth_103 : decode cX9_findNth 103 = .ok (.ifCond .le 18, 3) := by decide +kernel
theorem dX9_findNth_106 : decode cX9_findNth 106 = .ok (.aload_n 0, 1) := by decide +kernel
theorem dX9_findNth_107 : decode cX9_findNth 107 = .ok (.getfield 376, 3) := by decide +kernel
theorem dX9_findNth_110 : decode cX9_findNth 110 = .ok (.iload_n 3, 1) := by decide +kernel
theorem dX9_findNth_111 : decode cX9_findNth 111 = .ok (.if_icmp .ne 10, 3) := by decide +kernel
theorem dX9_findNth_114 : decode cX9_findNth 114 = .ok (.aload_n 0, 1) := by decide +kernel
theorem dX9_findNth_115 : decode cX9_findNth 115 = .ok (.getfield 379, 3) := by decide +kernel
theorem dX9_findNth_118 : decode cX9_findNth 118 = .ok (.goto 4, 3) := by decide +kernel
theorem dX9_findNth_121 : decode cX9_findNth 121 = .ok (.iconst 0, 1) := by decide +kernel
theorem dX9_findNth_122 : decode cX9_findNth 122 = .ok (.isub, 1) := by decide +kernel
theorem dX9_findNth_123 : decode cX9_findNth 123 = .ok (.istore 6, 2) := by decide +kernel
theorem dX9_findNth_125 : decode cX9_findNth 125 = .ok (.iinc 8 1, 3) := by decide +kernel
theorem dX9_findNth_128 : decode cX9_findNth 128 = .ok (.aload_n 0, 1) := by decide +kernel
theorem dX9_findNth_129 : decode cX9_findNth 129 = .ok (.getfield 104, 3) := by decide +kernel
theorem dX9_findNth_132 : decode cX9_findNth 132 = .ok (.iload 7, 2) := by decide +kernel
theorem dX9_findNth_134 : decode cX9_findNth 134 = .ok (.iload 8, 2) := by decide +kernel
theorem dX9_findNth_136 : decode cX9_findNth 136 = .ok (.iastore, 1) := by decide +kernel
theorem dX9_findNth_137 : decode cX9_findNth 137 = .ok (.aload_n 0, 1) := by decide +kernel
theorem dX9_findNth_138 : decode cX9_findNth 138 = .ok (.iload_n 1, 1) := by decide +kernel
theorem dX9_findNth_139 : decode cX9_findNth 139 = .ok (.invokevirtual 391, 3) := by decide +kernel
theorem dX9_findNth_142 : decode cX9_findNth 142 = .ok (.goto (-69), 3) := by decide +kernel
theorem dX9_findNth_145 : decode cX9_findNth 145 = .ok (.aload_n 0, 1) := by decide +kernel
theorem dX9_findNth_146 : decode cX9_findNth 146 = .ok (.getfield 107, 3) := by decide +kernel
theorem dX9_findNth_149 : decode cX9_findNth 149 = .ok (.iload 7, 2) := by decide +kernel
theorem dX9_findNth_151 : decode cX9_findNth 151 = .ok (.iload 8, 2) := by decide +kernel
theorem dX9_findNth_153 : decode cX9_findNth 153 = .ok (.iastore, 1) := by decide +kernel
theorem dX9_findNth_154 : decode cX9_findNth 154 = .ok (.iinc 7 1, 3) := by decide +kernel
theorem dX9_findNth_157 : decode cX9_findNth 157 = .ok (.goto (-112), 3) := by decide +kernel
theorem dX9_findNth_160 : decode cX9_findNth 160 = .ok (.aload_n 0, 1) := by decide +kernel
theorem dX9_findNth_161 : decode cX9_findNth 161 = .ok (.invokevirtual 388, 3) := by decide +kernel
theorem dX9_findNth_164 : decode cX9_findNth 164 = .ok (.aload_n 0, 1) := by decide +kernel
theorem dX9_findNth_165 : decode cX9_findNth 165 = .ok (.iload_n 3, 1) := by decide +kernel
theorem dX9_findNth_166 : decode cX9_findNth 166 = .ok (.putfield 376, 3) := by decide +kernel
theorem dX9_findNth_169 : decode cX9_findNth 169 = .ok (.aload_n 0, 1) := by decide +kernel
theorem dX9_findNth_170 : decode cX9_findNth 170 = .ok (.iload 4, 2) := by decide +kernel
theorem dX9_findNth_172 : decode cX9_findNth 172 = .ok (.putfield 379, 3) := by decide +kernel
theorem dX9_findNth_175 : decode cX9_findNth 175 = .ok (.aload_n 0, 1) := by decide +kernel
theorem dX9_findNth_176 : decode cX9_findNth 176 = .ok (.iload 5, 2) := by decide +kernel
theorem dX9_findNth_178 : decode cX9_findNth 178 = .ok (.putfield 382, 3) := by decide +kernel
theorem dX9_findNth_181 : decode cX9_findNth 181 = .ok (.iconst 1, 1) := by decide +kernel
theorem dX9_findNth_182 : decode cX9_findNth 182 = .ok (.ireturn, 1) := by decide +kernel
def bX9_findNth_0 (l : Launch) (E : Ev) (d : Nat) (Q : Option Value → Hp → Prop) : Kt := k_aload 0 (k_callV l E 9 55 YX9_free d 0 0 0 (k_aload 0 (k_iload 1 (k_callV l E 9 55 YX9_fill d 0 0 1 (k_aload 0 (k_getI 9 55 41 (k_istore 3 (k_aload 0 (k_getI 9 55 42 (k_istore 4 (k_aload 0 (k_getI 9 55 43 (k_istore 5 (k_iload 5 (k_if_eq (k_push (.int 0) (k_iret .boolean Q)) (k_iload 2 (k_iload 4 (k_icmp_lt (k_iload 2 (k_istore 6 (k_push (.int 0) (k_istore 7 (Go l E YX9_findNth (d + 1) 0 0 Q 0 0 45))))) (k_push (.int 0) (k_iret .boolean Q))))))))))))))))))))
set_option maxRecDepth 100000 in
set_option maxHeartbeats 4000000 in
theorem gX9_findNth_0 {l : Launch} {E : Ev} {d : Nat} {Q : Option Value → Hp → Prop} {ls : Lv} {st : List Value} {h : Hp} (hB : bX9_findNth_0 l E d Q ls st h) : Go l E YX9_findNth (d + 1) 0 0 Q 0 0 0 ls st h :=
  (sd_aload_n (i := 0) rfl dX9_findNth_0 (sd_callV (Y' := YX9_free) (mc' := 0) (ms' := 0) (n := 0) clsX9.1 mw_1594 mw_1596 mw_78 mw_108 mw_1597 rfl (okmX9_free) (by decide) (Nat.le_refl _) (by decide) (by decide) dX9_findNth_1 (sd_aload_n (i := 0) rfl dX9_findNth_4 (sd_iload_n (i := 1) rfl dX9_findNth_5 (sd_callV (Y' := YX9_fill) (mc' := 0) (ms' := 0) (n := 1) clsX9.1 mw_1598 mw_1600 mw_79 mw_108 mw_1601 rfl (okmX9_fill) (by decide) (Nat.le_refl _) (by decide) (by decide) dX9_findNth_6 (sd_aload_n (i := 0) rfl dX9_findNth_9 (sd_getI clsX9 (f := 41) (by decide) (fun _ _ _ => rfl) mw_1219 dX9_findNth_10 (sd_istore_n (i := 3) rfl (by decide) dX9_findNth_13 (sd_aload_n (i := 0) rfl dX9_findNth_14 (sd_getI clsX9 (f := 42) (by decide) (fun _ _ _ => rfl) mw_1220 dX9_findNth_15 (sd_istore (i := 4) (by decide) dX9_findNth_18 (sd_aload_n (i := 0) rfl dX9_findNth_20 (sd_getI clsX9 (f := 43) (by decide) (fun _ _ _ => rfl) mw_1221 dX9_findNth_21 (sd_istore (i := 5) (by decide) dX9_findNth_24 (sd_iload (n := 5) dX9_findNth_26 (sd_if_eq (tgt := 37) (by decide) dX9_findNth_28 (sd_iconst (v := 0) (by decide) dX9_findNth_37 (sd_iret (ty := .boolean) rfl (by decide) (by decide) dX9_findNth_38)) (sd_iload_n (i := 2) rfl dX9_findNth_31 (sd_iload (n := 4) dX9_findNth_32 (sd_icmp_lt (tgt := 39) (by decide) dX9_findNth_34 (sd_iload_n (i := 2) rfl dX9_findNth_39 (sd_istore (i := 6) (by decide) dX9_findNth_40 (sd_iconst (v := 0) (by decide) dX9_findNth_42 (sd_istore (i := 7) (by decide) dX9_findNth_43 (Sd.go))))) (sd_iconst (v := 0) (by decide) dX9_findNth_37 (sd_iret (ty := .boolean) rfl (by decide) (by decide) dX9_findNth_38)))))))))))))))))))) : Sd l E YX9_findNth (d + 1) 0 0 Q 0 0 0 (bX9_findNth_0 l E d Q)) ls st h hB
def bX9_findNth_45 (l : Launch) (E : Ev) (d : Nat) (Q : Option Value → Hp → Prop) : Kt := k_iload 7 (k_aload 0 (k_getR 9 55 3 (k_push (.int 1) (k_iaload (k_icmp_ge (k_aload 0 (k_callV l E 9 55 YX9_free d 0 0 0 (k_aload 0 (k_iload 3 (k_putI 9 55 41 (k_aload 0 (k_iload 4 (k_putI 9 55 42 (k_aload 0 (k_iload 5 (k_putI 9 55 43 (k_push (.int 1) (k_iret .boolean Q))))))))))))) (k_push (.int 0) (k_istore 8 (k_aload 0 (k_getR 9 55 40 (k_iload 7 (k_iload 8 (k_iastore (k_aload 0 (k_iload 1 (k_callV l E 9 55 YX9_fill d 0 0 1 (Go l E YX9_findNth (d + 1) 0 0 Q 0 0 73))))))))))))))))
set_option maxRecDepth 100000 in
set_option maxHeartbeats 4000000 in
theorem gX9_findNth_45 {l : Launch} {E : Ev} {d : Nat} {Q : Option Value → Hp → Prop} {ls : Lv} {st : List Value} {h : Hp} (hB : bX9_findNth_45 l E d Q ls st h) : Go l E YX9_findNth (d + 1) 0 0 Q 0 0 45 ls st h :=
  (sd_iload (n := 7) dX9_findNth_45 (sd_aload_n (i := 0) rfl dX9_findNth_47 (sd_getR clsX9 (f := 3) (by decide) (fun _ _ _ => rfl) mw_1181 dX9_findNth_48 (sd_iconst (v := 1) (by decide) dX9_findNth_51 (sd_iaload dX9_findNth_52 (sd_icmp_ge (tgt := 160) (by decide) dX9_findNth_53 (sd_aload_n (i := 0) rfl dX9_findNth_160 (sd_callV (Y' := YX9_free) (mc' := 0) (ms' := 0) (n := 0) clsX9.1 mw_1594 mw_1596 mw_78 mw_108 mw_1597 rfl (okmX9_free) (by decide) (Nat.le_refl _) (by decide) (by decide) dX9_findNth_161 (sd_aload_n (i := 0) rfl dX9_findNth_164 (sd_iload_n (i := 3) rfl dX9_findNth_165 (sd_putI clsX9 (f := 41) (by decide) (fun _ _ _ => rfl) rfl (Or.inl rfl) mw_1219 dX9_findNth_166 (sd_aload_n (i := 0) rfl dX9_findNth_169 (sd_iload (n := 4) dX9_findNth_170 (sd_putI clsX9 (f := 42) (by decide) (fun _ _ _ => rfl) rfl (Or.inl rfl) mw_1220 dX9_findNth_172 (sd_aload_n (i := 0) rfl dX9_findNth_175 (sd_iload (n := 5) dX9_findNth_176 (sd_putI clsX9 (f := 43) (by decide) (fun _ _ _ => rfl) rfl (Or.inl rfl) mw_1221 dX9_findNth_178 (sd_iconst (v := 1) (by decide) dX9_findNth_181 (sd_iret (ty := .boolean) rfl (by decide) (by decide) dX9_findNth_182))))))))))))) (sd_iconst (v := 0) (by decide) dX9_findNth_56 (sd_istore (i := 8) (by decide) dX9_findNth_57 (sd_aload_n (i := 0) rfl dX9_findNth_59 (sd_getR clsX9 (f := 40) (by decide) (fun _ _ _ => rfl) mw_1218 dX9_findNth_60 (sd_iload (n := 7) dX9_findNth_63 (sd_iload (n := 8) dX9_findNth_65 (sd_iastore dX9_findNth_67 (sd_aload_n (i := 0) rfl dX9_findNth_68 (sd_iload_n (i := 1) rfl dX9_findNth_69 (sd_callV (Y' := YX9_fill) (mc' := 0) (ms' := 0) (n := 1) clsX9.1 mw_1598 mw_1600 mw_79 mw_108 mw_1601 rfl (okmX9_fill) (by decide) (Nat.le_refl _) (by decide) (by decide) dX9_findNth_70 (Sd.go)))))))))))))))) : Sd l E YX9_findNth (d + 1) 0 0 Q 0 0 45 (bX9_findNth_45 l E d Q)) ls st h hB
def bX9_findNth_73 (l : Launch) (E : Ev) (d : Nat) (Q : Option Value → Hp → Prop) : Kt := k_aload 0 (k_getI 9 55 43 (k_if_eq (Go l E YX9_findNth (d + 1) 0 0 Q 0 0 97) (k_aload 0 (k_getI 9 55 41 (k_iload 3 (k_icmp_ne (Go l E YX9_findNth (d + 1) 0 0 Q 0 0 97) (k_iload 6 (k_aload 0 (k_getI 9 55 42 (k_icmp_lt (k_aload 0 (k_getR 9 55 44 (k_iload 7 (k_iload 8 (k_iastore (k_iinc 7 1 (Go l E YX9_findNth (d + 1) 0 0 Q 0 0 45))))))) (Go l E YX9_findNth (d + 1) 0 0 Q 0 0 97)))))))))))
set_option maxRecDepth 100000 in
set_option maxHeartbeats 4000000 in
theorem gX9_findNth_73 {l : Launch} {E : Ev} {d : Nat} {Q : Option Value → Hp → Prop} {ls : Lv} {st : List Value} {h : Hp} (hB : bX9_findNth_73 l E d Q ls st h) : Go l E YX9_findNth (d + 1) 0 0 Q 0 0 73 ls st h :=
  (sd_aload_n (i := 0) rfl dX9_findNth_73 (sd_getI clsX9 (f := 43) (by decide) (fun _ _ _ => rfl) mw_1221 dX9_findNth_74 (sd_if_eq (tgt := 97) (by decide) dX9_findNth_77 (Sd.go) (sd_aload_n (i := 0) rfl dX9_findNth_80 (sd_getI clsX9 (f := 41) (by decide) (fun _ _ _ => rfl) mw_1219 dX9_findNth_81 (sd_iload_n (i := 3) rfl dX9_findNth_84 (sd_icmp_ne (tgt := 97) (by decide) dX9_findNth_85 (Sd.go) (sd_iload (n := 6) dX9_findNth_88 (sd_aload_n (i := 0) rfl dX9_findNth_90 (sd_getI clsX9 (f := 42) (by decide) (fun _ _ _ => rfl) mw_1220 dX9_findNth_91 (sd_icmp_lt (tgt := 145) (by decide) dX9_findNth_94 (sd_aload_n (i := 0) rfl dX9_findNth_145 (sd_getR clsX9 (f := 44) (by decide) (fun _ _ _ => rfl) mw_1222 dX9_findNth_146 (sd_iload (n := 7) dX9_findNth_149 (sd_iload (n := 8) dX9_findNth_151 (sd_iastore dX9_findNth_153 (sd_iinc (i := 7) (v := 1) (by decide) (by decide) dX9_findNth_154 (sd_goto (tgt := 45) (by decide) dX9_findNth_157 (Sd.go)))))))) (Sd.go))))))))))) : Sd l E YX9_findNth (d + 1) 0 0 Q 0 0 73 (bX9_findNth_73 l E d Q)) ls st h hB
def bX9_findNth_97 (l : Launch) (E : Ev) (d : Nat) (Q : Option Value → Hp → Prop) : Kt := k_iload 6 (k_aload 0 (k_getI 9 55 43 (k_if_le (k_push (.int 0) (Go l E YX9_findNth (d + 1) 0 0 Q 0 0 122)) (k_aload 0 (k_getI 9 55 41 (k_iload 3 (k_icmp_ne (k_push (.int 0) (Go l E YX9_findNth (d + 1) 0 0 Q 0 0 122)) (k_aload 0 (k_getI 9 55 42 (Go l E YX9_findNth (d + 1) 0 0 Q 0 0 122))))))))))
set_option maxRecDepth 100000 in
set_option maxHeartbeats 4000000 in
theorem gX9_findNth_97 {l : Launch} {E : Ev} {d : Nat} {Q : Option Value → Hp → Prop} {ls : Lv} {st : List Value} {h : Hp} (hB : bX9_findNth_97 l E d Q ls st h) : Go l E YX9_findNth (d + 1) 0 0 Q 0 0 97 ls st h :=
  (sd_iload (n := 6) dX9_findNth_97 (sd_aload_n (i := 0) rfl dX9_findNth_99 (sd_getI clsX9 (f := 43) (by decide) (fun _ _ _ => rfl) mw_1221 dX9_findNth_100 (sd_if_le (tgt := 121) (by decide) dX9_findNth_103 (sd_iconst (v := 0) (by decide) dX9_findNth_121 (Sd.go)) (sd_aload_n (i := 0) rfl dX9_findNth_106 (sd_getI clsX9 (f := 41) (by decide) (fun _ _ _ => rfl) mw_1219 dX9_findNth_107 (sd_iload_n (i := 3) rfl dX9_findNth_110 (sd_icmp_ne (tgt := 121) (by decide) dX9_findNth_111 (sd_iconst (v := 0) (by decide) dX9_findNth_121 (Sd.go)) (sd_aload_n (i := 0) rfl dX9_findNth_114 (sd_getI clsX9 (f := 42) (by decide) (fun _ _ _ => rfl) mw_1220 dX9_findNth_115 (sd_goto (tgt := 122) (by decide) dX9_findNth_118 (Sd.go))))))))))) : Sd l E YX9_findNth (d + 1) 0 0 Q 0 0 97 (bX9_findNth_97 l E d Q)) ls st h hB
def bX9_findNth_122 (l : Launch) (E : Ev) (d : Nat) (Q : Option Value → Hp → Prop) : Kt := k_isub (k_istore 6 (k_iinc 8 1 (k_aload 0 (k_getR 9 55 40 (k_iload 7 (k_iload 8 (k_iastore (k_aload 0 (k_iload 1 (k_callV l E 9 55 YX9_fill d 0 0 1 (Go l E YX9_findNth (d + 1) 0 0 Q 0 0 73)))))))))))
set_option maxRecDepth 100000 in
set_option maxHeartbeats 4000000 in
theorem gX9_findNth_122 {l : Launch} {E : Ev} {d : Nat} {Q : Option Value → Hp → Prop} {ls : Lv} {st : List Value} {h : Hp} (hB : bX9_findNth_122 l E d Q ls st h) : Go l E YX9_findNth (d + 1) 0 0 Q 0 0 122 ls st h :=
  (sd_isub dX9_findNth_122 (sd_istore (i := 6) (by decide) dX9_findNth_123 (sd_iinc (i := 8) (v := 1) (by decide) (by decide) dX9_findNth_125 (sd_aload_n (i := 0) rfl dX9_findNth_128 (sd_getR clsX9 (f := 40) (by decide) (fun _ _ _ => rfl) mw_1218 dX9_findNth_129 (sd_iload (n := 7) dX9_findNth_132 (sd_iload (n := 8) dX9_findNth_134 (sd_iastore dX9_findNth_136 (sd_aload_n (i := 0) rfl dX9_findNth_137 (sd_iload_n (i := 1) rfl dX9_findNth_138 (sd_callV (Y' := YX9_fill) (mc' := 0) (ms' := 0) (n := 1) clsX9.1 mw_1598 mw_1600 mw_79 mw_108 mw_1601 rfl (okmX9_fill) (by decide) (Nat.le_refl _) (by decide) (by decide) dX9_findNth_139 (sd_goto (tgt := 73) (by decide) dX9_findNth_142 (Sd.go)))))))))))) : Sd l E YX9_findNth (d + 1) 0 0 Q 0 0 122 (bX9_findNth_122 l E d Q)) ls st h hB
theorem eX9_findNth {l : Launch} {E : Ev} {d : Nat} {Q : Option Value → Hp → Prop} {h : Hp} {a0 : Nat} {x1 : Int32} {x2 : Int32} (hk : Go l E YX9_findNth d 0 0 Q 0 0 0 [some (.ref a0), some (.int x1), some (.int x2), none, none, none, none, none, none] [] h) : GoM l E YX9_findNth d 0 0 [.ref a0, .int x1, .int x2] h Q := GoM.of (by decide +kernel) rfl (by simp [entA, YX9_findNth]) hk
theorem dX9_lay_0 : decode cX9_lay 0 = .ok (.aload_n 0, 1) := by decide +kernel
theorem dX9_lay_1 : decode cX9_lay 1 = .ok (.invokevirtual 351, 3) := by decide +kernel
theorem dX9_lay_4 : decode cX9_lay 4 = .ok (.aload_n 0, 1) := by decide +kernel
theorem dX9_lay_5 : decode cX9_lay 5 = .ok (.invokevirtual 354, 3) := by decide +kernel
theorem dX9_lay_8 : decode cX9_lay 8 = .ok (.aload_n 0, 1) := by decide +kernel
theorem dX9_lay_9 : decode cX9_lay 9 = .ok (.invokevirtual 388, 3) := by decide +kernel
theorem dX9_lay_12 : decode cX9_lay 12 = .ok (.aload_n 0, 1) := by decide +kernel
theorem dX9_lay_13 : decode cX9_lay 13 = .ok (.aload_n 0, 1) := by decide +kernel
theorem dX9_lay_14 : decode cX9_lay 14 = .ok (.getfield 13, 3) := by decide +kernel
theorem dX9_lay_17 : decode cX9_lay 17 = .ok (.iconst 4, 1) := by decide +kernel
theorem dX9_lay_18 : decode cX9_lay 18 = .ok (.iaload, 1) := by decide +kernel
theorem dX9_lay_19 : decode cX9_lay 19 = .ok (.invokevirtual 391, 3) := by decide +kernel
theorem dX9_lay_22 : decode cX9_lay 22 = .ok (.return_, 1) := by decide +kernel
def bX9_lay_0 (l : Launch) (E : Ev) (d : Nat) (Q : Option Value → Hp → Prop) : Kt := k_aload 0 (k_callV l E 9 55 YX9_asIs d 0 0 0 (k_aload 0 (k_callV l E 9 55 YX9_find d 0 0 0 (k_aload 0 (k_callV l E 9 55 YX9_free d 0 0 0 (k_aload 0 (k_aload 0 (k_getR 9 55 3 (k_push (.int 4) (k_iaload (k_callV l E 9 55 YX9_fill d 0 0 1 (k_vret Q))))))))))))
set_option maxRecDepth 100000 in
set_option maxHeartbeats 4000000 in
theorem gX9_lay_0 {l : Launch} {E : Ev} {d : Nat} {Q : Option Value → Hp → Prop} {ls : Lv} {st : List Value} {h : Hp} (hB : bX9_lay_0 l E d Q ls st h) : Go l E YX9_lay (d + 1) 0 0 Q 0 0 0 ls st h :=
  (sd_aload_n (i := 0) rfl dX9_lay_0 (sd_callV (Y' := YX9_asIs) (mc' := 0) (ms' := 0) (n := 0) clsX9.1 mw_1559 mw_1561 mw_71 mw_108 mw_1562 rfl (okmX9_asIs) (by decide) (Nat.le_refl _) (by decide) (by decide) dX9_lay_1 (sd_aload_n (i := 0) rfl dX9_lay_4 (sd_callV (Y' := YX9_find) (mc' := 0) (ms' := 0) (n := 0) clsX9.1 mw_1563 mw_1565 mw_72 mw_108 mw_1566 rfl (okmX9_find) (by decide) (Nat.le_refl _) (by decide) (by decide) dX9_lay_5 (sd_aload_n (i := 0) rfl dX9_lay_8 (sd_callV (Y' := YX9_free) (mc' := 0) (ms' := 0) (n := 0) clsX9.1 mw_1594 mw_1596 mw_78 mw_108 mw_1597 rfl (okmX9_free) (by decide) (Nat.le_refl _) (by decide) (by decide) dX9_lay_9 (sd_aload_n (i := 0) rfl dX9_lay_12 (sd_aload_n (i := 0) rfl dX9_lay_13 (sd_getR clsX9 (f := 3) (by decide) (fun _ _ _ => rfl) mw_1181 dX9_lay_14 (sd_iconst (v := 4) (by decide) dX9_lay_17 (sd_iaload dX9_lay_18 (sd_callV (Y' := YX9_fill) (mc' := 0) (ms' := 0) (n := 1) clsX9.1 mw_1598 mw_1600 mw_79 mw_108 mw_1601 rfl (okmX9_fill) (by decide) (Nat.le_refl _) (by decide) (by decide) dX9_lay_19 (sd_vret rfl (by decide) (by decide) dX9_lay_22)))))))))))) : Sd l E YX9_lay (d + 1) 0 0 Q 0 0 0 (bX9_lay_0 l E d Q)) ls st h hB
theorem eX9_lay {l : Launch} {E : Ev} {d : Nat} {Q : Option Value → Hp → Prop} {h : Hp} {a0 : Nat} (hk : Go l E YX9_lay d 0 0 Q 0 0 0 [some (.ref a0)] [] h) : GoM l E YX9_lay d 0 0 [.ref a0] h Q := GoM.of (by decide +kernel) rfl (by simp [entA, YX9_lay]) hk
theorem dX9_night_0 : decode cX9_night 0 = .ok (.aload_n 0, 1) := by decide +kernel
theorem dX9_night_1 : decode cX9_night 1 = .ok (.iconst 0, 1) := by decide +kernel
theorem dX9_night_2 : decode cX9_night 2 = .ok (.putfield 123, 3) := by decide +kernel
theorem dX9_night_5 : decode cX9_night 5 = .ok (.iload_n 1, 1) := by decide +kernel
theorem dX9_night_6 : decode cX9_night 6 = .ok (.i2l, 1) := by decide +kernel
theorem dX9_night_7 : decode cX9_night 7 = .ok (.lconst 0, 1) := by decide +kernel
theorem dX9_night_8 : decode cX9_night 8 = .ok (.ldc2_w 394, 3) := by decide +kernel
theorem dX9_night_11 : decode cX9_night 11 = .ok (.invokestatic 133, 3) := by decide +kernel
theorem dX9_night_14 : decode cX9_night 14 = .ok (.ifCond .ne 5, 3) := by decide +kernel
theorem dX9_night_17 : decode cX9_night 17 = .ok (.iconst (-1), 1) := by decide +kernel
theorem dX9_night_18 : decode cX9_night 18 = .ok (.ireturn, 1) := by decide +kernel
theorem dX9_night_19 : decode cX9_night 19 = .ok (.aload_n 0, 1) := by decide +kernel
theorem dX9_night_20 : decode cX9_night 20 = .ok (.invokevirtual 396, 3) := by decide +kernel
theorem dX9_night_23 : decode cX9_night 23 = .ok (.iload_n 1, 1) := by decide +kernel
theorem dX9_night_24 : decode cX9_night 24 = .ok (.iconst 1, 1) := by decide +kernel
theorem dX9_night_25 : decode cX9_night 25 = .ok (.if_icmp .ne 10, 3) := by decide +kernel
theorem dX9_night_28 : decode cX9_night 28 = .ok (.aload_n 0, 1) := by decide +kernel
theorem dX9_night_29 : decode cX9_night 29 = .ok (.getfield 379, 3) := by decide +kernel
theorem dX9_night_32 : decode cX9_night 32 = .ok (.goto 30, 3) := by decide +kernel
theorem dX9_night_35 : decode cX9_night 35 = .ok (.iload_n 1, 1) := by decide +kernel
theorem dX9_night_36 : decode cX9_night 36 = .ok (.iconst 2, 1) := by decide +kernel
theorem dX9_night_37 : decode cX9_night 37 = .ok (.if_icmp .ne 10, 3) := by decide +kernel
theorem dX9_night_40 : decode cX9_night 40 = .ok (.aload_n 0, 1) := by decide +kernel
theorem dX9_night_41 : decode cX9_night 41 = .ok (.getfield 382, 3) := by decide +kernel
theorem dX9_night_44 : decode cX9_night 44 = .ok (.goto 18, 3) := by decide +kernel
theorem dX9_night_47 : decode cX9_night 47 = .ok (.aload_n 0, 1) := by decide +kernel
theorem dX9_night_48 : decode cX9_night 48 = .ok (.getfield 382, 3) := by decide +kernel
theorem dX9_night_51 : decode cX9_night 51 = .ok (.ifCond .ne 7, 3) := by decide +kernel
theorem dX9_night_54 : decode cX9_night 54 = .ok (.iconst (-1), 1) := by decide +kernel
theorem dX9_night_55 : decode cX9_night 55 = .ok (.goto 7, 3) := by decide +kernel
theorem dX9_night_58 : decode cX9_night 58 = .ok (.aload_n 0, 1) := by decide +kernel
theorem dX9_night_59 : decode cX9_night 59 = .ok (.getfield 376, 3) := by decide +kernel
theorem dX9_night_62 : decode cX9_night 62 = .ok (.ireturn, 1) := by decide +kernel
def bX9_night_0 (l : Launch) (E : Ev) (d : Nat) (Q : Option Value → Hp → Prop) : Kt := k_aload 0 (k_push (.int 0) (k_putI 9 55 0 (k_iload 1 (k_i2l (k_push (.long 0) (k_push (.long 2) (k_callS l E YX9_in d 0 0 3 (k_if_ne (k_aload 0 (k_callV l E 9 55 YX9_lay d 0 0 0 (k_iload 1 (k_push (.int 1) (k_icmp_ne (k_iload 1 (k_push (.int 2) (k_icmp_ne (k_aload 0 (k_getI 9 55 43 (k_if_ne (k_aload 0 (k_getI 9 55 41 (k_iret .int Q))) (k_push (.int (-1)) (k_iret .int Q))))) (k_aload 0 (k_getI 9 55 43 (k_iret .int Q)))))) (k_aload 0 (k_getI 9 55 42 (k_iret .int Q)))))))) (k_push (.int (-1)) (k_iret .int Q))))))))))
set_option maxRecDepth 100000 in
set_option maxHeartbeats 4000000 in
theorem gX9_night_0 {l : Launch} {E : Ev} {d : Nat} {Q : Option Value → Hp → Prop} {ls : Lv} {st : List Value} {h : Hp} (hB : bX9_night_0 l E d Q ls st h) : Go l E YX9_night (d + 1) 0 0 Q 0 0 0 ls st h :=
  (sd_aload_n (i := 0) rfl dX9_night_0 (sd_iconst (v := 0) (by decide) dX9_night_1 (sd_putI clsX9 (f := 0) (by decide) (fun _ _ _ => rfl) rfl (Or.inl rfl) mw_1178 dX9_night_2 (sd_iload_n (i := 1) rfl dX9_night_5 (sd_i2l dX9_night_6 (sd_lconst (v := 0) (by decide) dX9_night_7 (sd_ldc2 (v := 2) mw_1589 dX9_night_8 (sd_callS (Y' := YX9_in) (mc' := 0) (ms' := 0) (n := 3) mw_1348 mw_1349 mw_108 mw_1350 (okmX9_in) (by decide) (Nat.le_refl _) (by decide) (by decide) dX9_night_11 (sd_if_ne (tgt := 19) (by decide) dX9_night_14 (sd_aload_n (i := 0) rfl dX9_night_19 (sd_callV (Y' := YX9_lay) (mc' := 0) (ms' := 0) (n := 0) clsX9.1 mw_1590 mw_1592 mw_77 mw_108 mw_1593 rfl (okmX9_lay) (by decide) (Nat.le_refl _) (by decide) (by decide) dX9_night_20 (sd_iload_n (i := 1) rfl dX9_night_23 (sd_iconst (v := 1) (by decide) dX9_night_24 (sd_icmp_ne (tgt := 35) (by decide) dX9_night_25 (sd_iload_n (i := 1) rfl dX9_night_35 (sd_iconst (v := 2) (by decide) dX9_night_36 (sd_icmp_ne (tgt := 47) (by decide) dX9_night_37 (sd_aload_n (i := 0) rfl dX9_night_47 (sd_getI clsX9 (f := 43) (by decide) (fun _ _ _ => rfl) mw_1221 dX9_night_48 (sd_if_ne (tgt := 58) (by decide) dX9_night_51 (sd_aload_n (i := 0) rfl dX9_night_58 (sd_getI clsX9 (f := 41) (by decide) (fun _ _ _ => rfl) mw_1219 dX9_night_59 (sd_iret (ty := .int) rfl (by decide) (by decide) dX9_night_62))) (sd_iconst (v := (-1)) (by decide) dX9_night_54 (sd_goto (tgt := 62) (by decide) dX9_night_55 (sd_iret (ty := .int) rfl (by decide) (by decide) dX9_night_62)))))) (sd_aload_n (i := 0) rfl dX9_night_40 (sd_getI clsX9 (f := 43) (by decide) (fun _ _ _ => rfl) mw_1221 dX9_night_41 (sd_goto (tgt := 62) (by decide) dX9_night_44 (sd_iret (ty := .int) rfl (by decide) (by decide) dX9_night_62))))))) (sd_aload_n (i := 0) rfl dX9_night_28 (sd_getI clsX9 (f := 42) (by decide) (fun _ _ _ => rfl) mw_1220 dX9_night_29 (sd_goto (tgt := 62) (by decide) dX9_night_32 (sd_iret (ty := .int) rfl (by decide) (by decide) dX9_night_62))))))))) (sd_iconst (v := (-1)) (by decide) dX9_night_17 (sd_iret (ty := .int) rfl (by decide) (by decide) dX9_night_18)))))))))) : Sd l E YX9_night (d + 1) 0 0 Q 0 0 0 (bX9_night_0 l E d Q)) ls st h hB
theorem eX9_night {l : Launch} {E : Ev} {d : Nat} {Q : Option Value → Hp → Prop} {h : Hp} {a0 : Nat} {x1 : Int32} (hk : Go l E YX9_night d 0 0 Q 0 0 0 [some (.ref a0), some (.int x1)] [] h) : GoM l E YX9_night d 0 0 [.ref a0, .int x1] h Q := GoM.of (by decide +kernel) rfl (by simp [entA, YX9_night]) hk
theorem dX9_isPlayed_0 : decode cX9_isPlayed 0 = .ok (.aload_n 0, 1) := by decide +kernel
theorem dX9_isPlayed_1 : decode cX9_isPlayed 1 = .ok (.invokevirtual 351, 3) := by decide +kernel
theorem dX9_isPlayed_4 : decode cX9_isPlayed 4 = .ok (.aload_n 0, 1) := by decide +kernel
theorem dX9_isPlayed_5 : decode cX9_isPlayed 5 = .ok (.invokevirtual 354, 3) := by decide +kernel
theorem dX9_isPlayed_8 : decode cX9_isPlayed 8 = .ok (.aload_n 0, 1) := by decide +kernel
theorem dX9_isPlayed_9 : decode cX9_isPlayed 9 = .ok (.aload_n 0, 1) := by decide +kernel
theorem dX9_isPlayed_10 : decode cX9_isPlayed 10 = .ok (.getfield 13, 3) := by decide +kernel
theorem dX9_isPlayed_13 : decode cX9_isPlayed 13 = .ok (.iconst 4, 1) := by decide +kernel
theorem dX9_isPlayed_14 : decode cX9_isPlayed 14 = .ok (.iaload, 1) := by decide +kernel
theorem dX9_isPlayed_15 : decode cX9_isPlayed 15 = .ok (.invokevirtual 399, 3) := by decide +kernel
theorem dX9_isPlayed_18 : decode cX9_isPlayed 18 = .ok (.ireturn, 1) := by decide +kernel
def bX9_isPlayed_0 (l : Launch) (E : Ev) (d : Nat) (Q : Option Value → Hp → Prop) : Kt := k_aload 0 (k_callV l E 9 55 YX9_asIs d 0 0 0 (k_aload 0 (k_callV l E 9 55 YX9_find d 0 0 0 (k_aload 0 (k_aload 0 (k_getR 9 55 3 (k_push (.int 4) (k_iaload (k_callV l E 9 55 YX9_findFirst d 0 0 1 (k_iret .boolean Q))))))))))
set_option maxRecDepth 100000 in
set_option maxHeartbeats 4000000 in
theorem gX9_isPlayed_0 {l : Launch} {E : Ev} {d : Nat} {Q : Option Value → Hp → Prop} {ls : Lv} {st : List Value} {h : Hp} (hB : bX9_isPlayed_0 l E d Q ls st h) : Go l E YX9_isPlayed (d + 1) 0 0 Q 0 0 0 ls st h :=
  (sd_aload_n (i := 0) rfl dX9_isPlayed_0 (sd_callV (Y' := YX9_asIs) (mc' := 0) (ms' := 0) (n := 0) clsX9.1 mw_1559 mw_1561 mw_71 mw_108 mw_1562 rfl (okmX9_asIs) (by decide) (Nat.le_refl _) (by decide) (by decide) dX9_isPlayed_1 (sd_aload_n (i := 0) rfl dX9_isPlayed_4 (sd_callV (Y' := YX9_find) (mc' := 0) (ms' := 0) (n := 0) clsX9.1 mw_1563 mw_1565 mw_72 mw_108 mw_1566 rfl (okmX9_find) (by decide) (Nat.le_refl _) (by decide) (by decide) dX9_isPlayed_5 (sd_aload_n (i := 0) rfl dX9_isPlayed_8 (sd_aload_n (i := 0) rfl dX9_isPlayed_9 (sd_getR clsX9 (f := 3) (by decide) (fun _ _ _ => rfl) mw_1181 dX9_isPlayed_10 (sd_iconst (v := 4) (by decide) dX9_isPlayed_13 (sd_iaload dX9_isPlayed_14 (sd_callV (Y' := YX9_findFirst) (mc' := 0) (ms' := 0) (n := 1) clsX9.1 mw_1630 mw_1632 mw_84 mw_108 mw_1633 rfl (okmX9_findFirst) (by decide) (Nat.le_refl _) (by decide) (by decide) dX9_isPlayed_15 (sd_iret (ty := .boolean) rfl (by decide) (by decide) dX9_isPlayed_18)))))))))) : Sd l E YX9_isPlayed (d + 1) 0 0 Q 0 0 0 (bX9_isPlayed_0 l E d Q)) ls st h hB
theorem eX9_isPlayed {l : Launch} {E : Ev} {d : Nat} {Q : Option Value → Hp → Prop} {h : Hp} {a0 : Nat} (hk : Go l E YX9_isPlayed d 0 0 Q 0 0 0 [some (.ref a0)] [] h) : GoM l E YX9_isPlayed d 0 0 [.ref a0] h Q := GoM.of (by decide +kernel) rfl (by simp [entA, YX9_isPlayed]) hk
theorem dX9_who_0 : decode cX9_who 0 = .ok (.aload_n 0, 1) := by decide +kernel
theorem dX9_who_1 : decode cX9_who 1 = .ok (.iconst 0, 1) := by decide +kernel
theorem dX9_who_2 : decode cX9_who 2 = .ok (.putfield 123, 3) := by decide +kernel
theorem dX9_who_5 : decode cX9_who 5 = .ok (.aload_n 0, 1) := by decide +kernel
theorem dX9_who_6 : decode cX9_who 6 = .ok (.iload_n 1, 1) := by decide +kernel
theorem dX9_who_7 : decode cX9_who 7 = .ok (.invokevirtual 163, 3) := by decide +kernel
theorem dX9_who_10 : decode cX9_who 10 = .ok (.ifCond .eq 19, 3) := by decide +kernel
theorem dX9_who_13 : decode cX9_who 13 = .ok (.aload_n 0, 1) := by decide +kernel
theorem dX9_who_14 : decode cX9_who 14 = .ok (.invokevirtual 402, 3) := by decide +kernel
theorem dX9_who_17 : decode cX9_who 17 = .ok (.ifCond .eq 12, 3) := by decide +kernel
theorem dX9_who_20 : decode cX9_who 20 = .ok (.aload_n 0, 1) := by decide +kernel
theorem dX9_who_21 : decode cX9_who 21 = .ok (.getfield 107, 3) := by decide +kernel
theorem dX9_who_24 : decode cX9_who 24 = .ok (.iload_n 1, 1) := by decide +kernel
theorem dX9_who_25 : decode cX9_who 25 = .ok (.iaload, 1) := by decide +kernel
theorem dX9_who_26 : decode cX9_who 26 = .ok (.goto 4, 3) := by decide +kernel
theorem dX9_who_29 : decode cX9_who 29 = .ok (.iconst (-1), 1) := by decide +kernel
theorem dX9_who_30 : decode cX9_who 30 = .ok (.ireturn, 1) := by decide +kernel
def bX9_who_0 (l : Launch) (E : Ev) (d : Nat) (Q : Option Value → Hp → Prop) : Kt := k_aload 0 (k_push (.int 0) (k_putI 9 55 0 (k_aload 0 (k_iload 1 (k_callV l E 9 55 YX9_isPart d 0 0 1 (k_if_eq (k_push (.int (-1)) (k_iret .int Q)) (k_aload 0 (k_callV l E 9 55 YX9_isPlayed d 0 0 0 (k_if_eq (k_push (.int (-1)) (k_iret .int Q)) (k_aload 0 (k_getR 9 55 44 (k_iload 1 (k_iaload (k_iret .int Q))))))))))))))
set_option maxRecDepth 100000 in
set_option maxHeartbeats 4000000 in
theorem gX9_who_0 {l : Launch} {E : Ev} {d : Nat} {Q : Option Value → Hp → Prop} {ls : Lv} {st : List Value} {h : Hp} (hB : bX9_who_0 l E d Q ls st h) : Go l E YX9_who (d + 1) 0 0 Q 0 0 0 ls st h :=
  (sd_aload_n (i := 0) rfl dX9_who_0 (sd_iconst (v := 0) (by decide) dX9_who_1 (sd_putI clsX9 (f := 0) (by decide) (fun _ _ _ => rfl) rfl (Or.inl rfl) mw_1178 dX9_who_2 (sd_aload_n (i := 0) rfl dX9_who_5 (sd_iload_n (i := 1) rfl dX9_who_6 (sd_callV (Y' := YX9_isPart) (mc' := 0) (ms' := 0) (n := 1) clsX9.1 mw_1397 mw_1399 mw_49 mw_108 mw_1400 rfl (okmX9_isPart) (by decide) (Nat.le_refl _) (by decide) (by decide) dX9_who_7 (sd_if_eq (tgt := 29) (by decide) dX9_who_10 (sd_iconst (v := (-1)) (by decide) dX9_who_29 (sd_iret (ty := .int) rfl (by decide) (by decide) dX9_who_30)) (sd_aload_n (i := 0) rfl dX9_who_13 (sd_callV (Y' := YX9_isPlayed) (mc' := 0) (ms' := 0) (n := 0) clsX9.1 mw_1626 mw_1628 mw_83 mw_108 mw_1629 rfl (okmX9_isPlayed) (by decide) (Nat.le_refl _) (by decide) (by decide) dX9_who_14 (sd_if_eq (tgt := 29) (by decide) dX9_who_17 (sd_iconst (v := (-1)) (by decide) dX9_who_29 (sd_iret (ty := .int) rfl (by decide) (by decide) dX9_who_30)) (sd_aload_n (i := 0) rfl dX9_who_20 (sd_getR clsX9 (f := 44) (by decide) (fun _ _ _ => rfl) mw_1222 dX9_who_21 (sd_iload_n (i := 1) rfl dX9_who_24 (sd_iaload dX9_who_25 (sd_goto (tgt := 30) (by decide) dX9_who_26 (sd_iret (ty := .int) rfl (by decide) (by decide) dX9_who_30))))))))))))))) : Sd l E YX9_who (d + 1) 0 0 Q 0 0 0 (bX9_who_0 l E d Q)) ls st h hB
theorem eX9_who {l : Launch} {E : Ev} {d : Nat} {Q : Option Value → Hp → Prop} {h : Hp} {a0 : Nat} {x1 : Int32} (hk : Go l E YX9_who d 0 0 Q 0 0 0 [some (.ref a0), some (.int x1)] [] h) : GoM l E YX9_who d 0 0 [.ref a0, .int x1] h Q := GoM.of (by decide +kernel) rfl (by simp [entA, YX9_who]) hk
theorem dX9_usually_0 : decode cX9_usually 0 = .ok (.aload_n 0, 1) := by decide +kernel
theorem dX9_usually_1 : decode cX9_usually 1 = .ok (.getfield 13, 3) := by decide +kernel
theorem dX9_usually_4 : decode cX9_usually 4 = .ok (.bipush 42, 2) := by decide +kernel
theorem dX9_usually_6 : decode cX9_usually 6 = .ok (.iconst 4, 1) := by decide +kernel
theorem dX9_usually_7 : decode cX9_usually 7 = .ok (.iload_n 1, 1) := by decide +kernel
theorem dX9_usually_8 : decode cX9_usually 8 = .ok (.imul, 1) := by decide +kernel
theorem dX9_usually_9 : decode cX9_usually 9 = .ok (.iadd, 1) := by decide +kernel
theorem dX9_usually_10 : decode cX9_usually 10 = .ok (.iconst 3, 1) := by decide +kernel
theorem dX9_usually_11 : decode cX9_usually 11 = .ok (.iadd, 1) := by decide +kernel
theorem dX9_usually_12 : decode cX9_usually 12 = .ok (.iaload, 1) := by decide +kernel
theorem dX9_usually_13 : decode cX9_usually 13 = .ok (.ireturn, 1) := by decide +kernel
def bX9_usually_0 (l : Launch) (E : Ev) (d : Nat) (Q : Option Value → Hp → Prop) : Kt := k_aload 0 (k_getR 9 55 3 (k_push (.int 42) (k_push (.int 4) (k_iload 1 (k_imul (k_iadd (k_push (.int 3) (k_iadd (k_iaload (k_iret .int Q))))))))))
set_option maxRecDepth 100000 in
set_option maxHeartbeats 4000000 in
theorem gX9_usually_0 {l : Launch} {E : Ev} {d : Nat} {Q : Option Value → Hp → Prop} {ls : Lv} {st : List Value} {h : Hp} (hB : bX9_usually_0 l E d Q ls st h) : Go l E YX9_usually (d + 1) 0 0 Q 0 0 0 ls st h :=
  (sd_aload_n (i := 0) rfl dX9_usually_0 (sd_getR clsX9 (f := 3) (by decide) (fun _ _ _ => rfl) mw_1181 dX9_usually_1 (sd_bipush (v := 42) (by decide) dX9_usually_4 (sd_iconst (v := 4) (by decide) dX9_usually_6 (sd_iload_n (i := 1) rfl dX9_usually_7 (sd_imul dX9_usually_8 (sd_iadd dX9_usually_9 (sd_iconst (v := 3) (by decide) dX9_usually_10 (sd_iadd dX9_usually_11 (sd_iaload dX9_usually_12 (sd_iret (ty := .int) rfl (by decide) (by decide) dX9_usually_13)))))))))) : Sd l E YX9_usually (d + 1) 0 0 Q 0 0 0 (bX9_usually_0 l E d Q)) ls st h hB
theorem eX9_usually {l : Launch} {E : Ev} {d : Nat} {Q : Option Value → Hp → Prop} {h : Hp} {a0 : Nat} {x1 : Int32} (hk : Go l E YX9_usually d 0 0 Q 0 0 0 [some (.ref a0), some (.int x1)] [] h) : GoM l E YX9_usually d 0 0 [.ref a0, .int x1] h Q := GoM.of (by decide +kernel) rfl (by simp [entA, YX9_usually]) hk
theorem dX9_changed_0 : decode cX9_changed 0 = .ok (.aload_n 0, 1) := by decide +kernel
theorem dX9_changed_1 : decode cX9_changed 1 = .ok (.iconst 0, 1) := by decide +kernel
theorem dX9_changed_2 : decode cX9_changed 2 = .ok (.putfield 123, 3) := by decide +kernel
theorem dX9_changed_5 : decode cX9_changed 5 = .ok (.aload_n 0, 1) := by decide +kernel
theorem dX9_changed_6 : decode cX9_changed 6 = .ok (.invokevirtual 402, 3) := by decide +kernel
theorem dX9_changed_9 : decode cX9_changed 9 = .ok (.ifCond .ne 5, 3) := by decide +kernel
theorem dX9_changed_12 : decode cX9_changed 12 = .ok (.iconst (-1), 1) := by decide +kernel
theorem dX9_changed_13 : decode cX9_changed 13 = .ok (.ireturn, 1) := by decide +kernel
theorem dX9_changed_14 : decode cX9_changed 14 = .ok (.iconst 0, 1) := by decide +kernel
theorem dX9_changed_15 : decode cX9_changed 15 = .ok (.istore_n 1, 1) := by decide +kernel
theorem dX9_changed_16 : decode cX9_changed 16 = .ok (.iconst 0, 1) := by decide +kernel
theorem dX9_changed_17 : decode cX9_changed 17 = .ok (.istore_n 2, 1) := by decide +kernel
theorem dX9_changed_18 : decode cX9_changed 18 = .ok (.iload_n 2, 1) := by decide +kernel
theorem dX9_changed_19 : decode cX9_changed 19 = .ok (.aload_n 0, 1) := by decide +kernel
theorem dX9_changed_20 : decode cX9_changed 20 = .ok (.getfield 13, 3) := by decide +kernel
theorem dX9_changed_23 : decode cX9_changed 23 = .ok (.iconst 1, 1) := by decide +kernel
theorem dX9_changed_24 : decode cX9_changed 24 = .ok (.iaload, 1) := by decide +kernel
theorem dX9_changed_25 : decode cX9_changed 25 = .ok (.if_icmp .ge 33, 3) := by decide +kernel
theorem dX9_changed_28 : decode cX9_changed 28 = .ok (.iload_n 1, 1) := by decide +kernel
theorem dX9_changed_29 : decode cX9_changed 29 = .ok (.aload_n 0, 1) := by decide +kernel
theorem dX9_changed_30 : decode cX9_changed 30 = .ok (.getfield 107, 3) := by decide +kernel
theorem dX9_changed_33 : decode cX9_changed 33 = .ok (.iload_n 2, 1) := by decide +kernel
theorem dX9_changed_34 : decode cX9_changed 34 = .ok (.iaload, 1) := by decide +kernel
theorem dX9_changed_35 : decode cX9_changed 35 = .ok (.aload_n 0, 1) := by decide +kernel
theorem dX9_changed_36 : decode cX9_changed 36 = .ok (.iload_n 2, 1) := by decide +kernel
theorem dX9_changed_37 : decode cX9_changed 37 = .ok (.invokevirtual 405, 3) := by decide +kernel
theorem dX9_changed_40 : decode cX9_changed 40 = .ok (.if_icmp .eq 9, 3) := by decide +kernel
theorem dX9_changed_43 : decode cX9_changed 43 = .ok (.iconst 1, 1) := by decide +kernel
theorem dX9_changed_44 : decode cX9_changed 44 = .ok (.iload_n 2, 1) := by decide +kernel
theorem dX9_changed_45 : decode cX9_changed 45 = .ok (.ishl, 1) := by decide +kernel
theorem dX9_changed_46 : decode cX9_changed 46 = .ok (.goto 4, 3) := by decide +kernel
theorem dX9_changed_49 : decode cX9_changed 49 = .ok (.iconst 0, 1) := by decide +kernel
theorem dX9_changed_50 : decode cX9_changed 50 = .ok (.ior, 1) := by decide +kernel
theorem dX9_changed_51 : decode cX9_changed 51 = .ok (.istore_n 1, 1) := by decide +kernel
theorem dX9_changed_52 : decode cX9_changed 52 = .ok (.iinc 2 1, 3) := by decide +kernel
theorem dX9_changed_55 : decode cX9_changed 55 = .ok (.goto (-37), 3) := by decide +kernel
theorem dX9_changed_58 : decode cX9_changed 58 = .ok (.iload_n 1, 1) := by decide +kernel
theorem dX9_changed_59 : decode cX9_changed 59 = .ok (.ireturn, 1) := by decide +kernel
def bX9_changed_0 (l : Launch) (E : Ev) (d : Nat) (Q : Option Value → Hp → Prop) : Kt := k_aload 0 (k_push (.int 0) (k_putI 9 55 0 (k_aload 0 (k_callV l E 9 55 YX9_isPlayed d 0 0 0 (k_if_ne (k_push (.int 0) (k_istore 1 (k_push (.int 0) (k_istore 2 (Go l E YX9_changed (d + 1) 0 0 Q 0 0 18))))) (k_push (.int (-1)) (k_iret .int Q)))))))
set_option maxRecDepth 100000 in
set_option maxHeartbeats 4000000 in
theorem gX9_changed_0 {l : Launch} {E : Ev} {d : Nat} {Q : Option Value → Hp → Prop} {ls : Lv} {st : List Value} {h : Hp} (hB : bX9_changed_0 l E d Q ls st h) : Go l E YX9_changed (d + 1) 0 0 Q 0 0 0 ls st h :=
  (sd_aload_n (i := 0) rfl dX9_changed_0 (sd_iconst (v := 0) (by decide) dX9_changed_1 (sd_putI clsX9 (f := 0) (by decide) (fun _ _ _ => rfl) rfl (Or.inl rfl) mw_1178 dX9_changed_2 (sd_aload_n (i := 0) rfl dX9_changed_5 (sd_callV (Y' := YX9_isPlayed) (mc' := 0) (ms' := 0) (n := 0) clsX9.1 mw_1626 mw_1628 mw_83 mw_108 mw_1629 rfl (okmX9_isPlayed) (by decide) (Nat.le_refl _) (by decide) (by decide) dX9_changed_6 (sd_if_ne (tgt := 14) (by decide) dX9_changed_9 (sd_iconst (v := 0) (by decide) dX9_changed_14 (sd_istore_n (i := 1) rfl (by decide) dX9_changed_15 (sd_iconst (v := 0) (by decide) dX9_changed_16 (sd_istore_n (i := 2) rfl (by decide) dX9_changed_17 (Sd.go))))) (sd_iconst (v := (-1)) (by decide) dX9_changed_12 (sd_iret (ty := .int) rfl (by decide) (by decide) dX9_changed_13))))))) : Sd l E YX9_changed (d + 1) 0 0 Q 0 0 0 (bX9_changed_0 l E d Q)) ls st h hB
def bX9_changed_18 (l : Launch) (E : Ev) (d : Nat) (Q : Option Value → Hp → Prop) : Kt := k_iload 2 (k_aload 0 (k_getR 9 55 3 (k_push (.int 1) (k_iaload (k_icmp_ge (k_iload 1 (k_iret .int Q)) (k_iload 1 (k_aload 0 (k_getR 9 55 44 (k_iload 2 (k_iaload (k_aload 0 (k_iload 2 (k_callV l E 9 55 YX9_usually d 0 0 1 (k_icmp_eq (k_push (.int 0) (k_ior (k_istore 1 (k_iinc 2 1 (Go l E YX9_changed (d + 1) 0 0 Q 0 0 18))))) (k_push (.int 1) (k_iload 2 (k_ishl (k_ior (k_istore 1 (k_iinc 2 1 (Go l E YX9_changed (d + 1) 0 0 Q 0 0 18)))))))))))))))))))))
set_option maxRecDepth 100000 in
set_option maxHeartbeats 4000000 in
theorem gX9_changed_18 {l : Launch} {E : Ev} {d : Nat} {Q : Option Value → Hp → Prop} {ls : Lv} {st : List Value} {h : Hp} (hB : bX9_changed_18 l E d Q ls st h) : Go l E YX9_changed (d + 1) 0 0 Q 0 0 18 ls st h :=
  (sd_iload_n (i := 2) rfl dX9_changed_18 (sd_aload_n (i := 0) rfl dX9_changed_19 (sd_getR clsX9 (f := 3) (by decide) (fun _ _ _ => rfl) mw_1181 dX9_changed_20 (sd_iconst (v := 1) (by decide) dX9_changed_23 (sd_iaload dX9_changed_24 (sd_icmp_ge (tgt := 58) (by decide) dX9_changed_25 (sd_iload_n (i := 1) rfl dX9_changed_58 (sd_iret (ty := .int) rfl (by decide) (by decide) dX9_changed_59)) (sd_iload_n (i := 1) rfl dX9_changed_28 (sd_aload_n (i := 0) rfl dX9_changed_29 (sd_getR clsX9 (f := 44) (by decide) (fun _ _ _ => rfl) mw_1222 dX9_changed_30 (sd_iload_n (i := 2) rfl dX9_changed_33 (sd_iaload dX9_changed_34 (sd_aload_n (i := 0) rfl dX9_changed_35 (sd_iload_n (i := 2) rfl dX9_changed_36 (sd_callV (Y' := YX9_usually) (mc' := 0) (ms' := 0) (n := 1) clsX9.1 mw_1642 mw_1644 mw_86 mw_108 mw_1645 rfl (okmX9_usually) (by decide) (Nat.le_refl _) (by decide) (by decide) dX9_changed_37 (sd_icmp_eq (tgt := 49) (by decide) dX9_changed_40 (sd_iconst (v := 0) (by decide) dX9_changed_49 (sd_ior dX9_changed_50 (sd_istore_n (i := 1) rfl (by decide) dX9_changed_51 (sd_iinc (i := 2) (v := 1) (by decide) (by decide) dX9_changed_52 (sd_goto (tgt := 18) (by decide) dX9_changed_55 (Sd.go)))))) (sd_iconst (v := 1) (by decide) dX9_changed_43 (sd_iload_n (i := 2) rfl dX9_changed_44 (sd_ishl dX9_changed_45 (sd_goto (tgt := 50) (by decide) dX9_changed_46 (sd_ior dX9_changed_50 (sd_istore_n (i := 1) rfl (by decide) dX9_changed_51 (sd_iinc (i := 2) (v := 1) (by decide) (by decide) dX9_changed_52 (sd_goto (tgt := 18) (by decide) dX9_changed_55 (Sd.go))))))))))))))))))))))) : Sd l E YX9_changed (d + 1) 0 0 Q 0 0 18 (bX9_changed_18 l E d Q)) ls st h hB
theorem eX9_changed {l : Launch} {E : Ev} {d : Nat} {Q : Option Value → Hp → Prop} {h : Hp} {a0 : Nat} (hk : Go l E YX9_changed d 0 0 Q 0 0 0 [some (.ref a0), none, none] [] h) : GoM l E YX9_changed d 0 0 [.ref a0] h Q := GoM.of (by decide +kernel) rfl (by simp [entA, YX9_changed]) hk
theorem dX9_chain_0 : decode cX9_chain 0 = .ok (.aload_n 0, 1) := by decide +kernel
theorem dX9_chain_1 : decode cX9_chain 1 = .ok (.iconst 0, 1) := by decide +kernel
theorem dX9_chain_2 : decode cX9_chain 2 = .ok (.putfield 123, 3) := by decide +kernel
theorem dX9_chain_5 : decode cX9_chain 5 = .ok (.aload_n 0, 1) := by decide +kernel
theorem dX9_chain_6 : decode cX9_chain 6 = .ok (.iload_n 1, 1) := by decide +kernel
theorem dX9_chain_7 : decode cX9_chain 7 = .ok (.invokevirtual 163, 3) := by decide +kernel
theorem dX9_chain_10 : decode cX9_chain 10 = .ok (.ifCond .eq 10, 3) := by decide +kernel
theorem dX9_chain_13 : decode cX9_chain 13 = .ok (.aload_n 0, 1) := by decide +kernel
theorem dX9_chain_14 : decode cX9_chain 14 = .ok (.invokevirtual 402, 3) := by decide +kernel
theorem dX9_chain_17 : decode cX9_chain 17 = .ok (.ifCond .ne 5, 3) := by decide +kernel
theorem dX9_chain_20 : decode cX9_chain 20 = .ok (.iconst (-1), 1) := by decide +kernel
theorem dX9_chain_21 : decode cX9_chain 21 = .ok (.ireturn, 1) := by decide +kernel
theorem dX9_chain_22 : decode cX9_chain 22 = .ok (.iconst 0, 1) := by decide +kernel
theorem dX9_chain_23 : decode cX9_chain 23 = .ok (.istore_n 3, 1) := by decide +kernel
theorem dX9_chain_24 : decode cX9_chain 24 = .ok (.iconst 0, 1) := by decide +kernel
theorem dX9_chain_25 : decode cX9_chain 25 = .ok (.istore 4, 2) := by decide +kernel
theorem dX9_chain_27 : decode cX9_chain 27 = .ok (.aload_n 0, 1) := by decide +kernel
theorem dX9_chain_28 : decode cX9_chain 28 = .ok (.getfield 107, 3) := by decide +kernel
theorem dX9_chain_31 : decode cX9_chain 31 = .ok (.iload_n 1, 1) := by decide +kernel
theorem dX9_chain_32 : decode cX9_chain 32 = .ok (.iaload, 1) := by decide +kernel
theorem dX9_chain_33 : decode cX9_chain 33 = .ok (.aload_n 0, 1) := by decide +kernel
theorem dX9_chain_34 : decode cX9_chain 34 = .ok (.iload_n 1, 1) := by decide +kernel
theorem dX9_chain_35 : decode cX9_chain 35 = .ok (.invokevirtual 405, 3) := by decide +kernel
theorem dX9_chain_38 : decode cX9_chain 38 = .ok (.if_icmp .eq 12, 3) := by decide +kernel
theorem dX9_chain_41 : decode cX9_chain 41 = .ok (.aload_n 0, 1) := by decide +kernel
theorem dX9_chain_42 : decode cX9_chain 42 = .ok (.getfield 107, 3) := by decide +kernel
theorem dX9_chain_45 : decode cX9_chain 45 = .ok (.iload_n 1, 1) := by decide +kernel
theorem dX9_chain_46 : decode cX9_chain 46 = .ok (.iaload, 1) := by decide +kernel
theorem dX9_chain_47 : decode cX9_chain 47 = .ok (.goto 4, 3) := by decide +kernel
theorem dX9_chain_50 : decode cX9_chain 50 = .ok (.iconst (-1), 1) := by decide +kernel
theorem dX9_chain_51 : decode cX9_chain 51 = .ok (.istore 5, 2) := by decide +kernel
theorem dX9_chain_53 : decode cX9_chain 53 = .ok (.iload 5, 2) := by decide +kernel
theorem dX9_chain_55 : decode cX9_chain 55 = .ok (.iconst (-1), 1) := by decide +kernel
theorem dX9_chain_56 : decode cX9_chain 56 = .ok (.if_icmp .eq 106, 3) := by decide +kernel
theorem dX9_chain_59 : decode cX9_chain 59 = .ok (.iload_n 3, 1) := by decide +kernel
theorem dX9_chain_60 : decode cX9_chain 60 = .ok (.iload_n 2, 1) := by decide +kernel
theorem dX9_chain_61 : decode cX9_chain 61 = .ok (.if_icmp .ne 6, 3) := by decide +kernel
theorem dX9_chain_64 : decode cX9_chain 64 = .ok (.iload 5, 2) := by decide +kernel
theorem dX9_chain_66 : decode cX9_chain 66 = .ok (.ireturn, 1) := by decide +kernel
theorem dX9_chain_67 : decode cX9_chain 67 = .ok (.iinc 3 1, 3) := by decide +kernel
theorem dX9_chain_70 : decode cX9_chain 70 = .ok (.iload 4, 2) := by decide +kernel
theorem dX9_chain_72 : decode cX9_chain 72 = .ok (.iconst 1, 1) := by decide +kernel
theorem dX9_chain_73 : decode cX9_chain 73 = .ok (.iload 5, 2) := by decide +kernel
theorem dX9_chain_75 : decode cX9_chain 75 = .ok (.ishl, 1) := by decide +kernel
theorem dX9_chain_76 : decode cX9_chain 76 = .ok (.ior, 1) := by decide +kernel
theorem dX9_chain_77 : decode cX9_chain 77 = .ok (.istore 4, 2) := by decide +kernel
theorem dX9_chain_79 : decode cX9_chain 79 = .ok (.iconst (-1), 1) := by decide +kernel
theorem dX9_chain_80 : decode cX9_chain 80 = .ok (.istore 6, 2) := by decide +kernel
theorem dX9_chain_82 : decode cX9_chain 82 = .ok (.aload_n 0, 1) := by decide +kernel
theorem dX9_chain_83 : decode cX9_chain 83 = .ok (.getfield 13, 3) := by decide +kernel
theorem dX9_chain_86 : decode cX9_chain 86 = .ok (.iconst 1, 1) := by decide +kernel
theorem dX9_chain_87 : decode cX9_chain 87 = .ok (.iaload, 1) := by decide +kernel
theorem dX9_chain_88 : decode cX9_chain 88 = .ok (.iconst 1, 1) := by decide +kernel
theorem dX9_chain_89 : decode cX9_chain 89 = .ok (.isub, 1) := by decide +kernel
theorem dX9_chain_90 : decode cX9_chain 90 = .ok (.istore 7, 2) := by decide +kernel
theorem dX9_chain_92 : decode cX9_chain 92 = .ok (.iload 7, 2) := by decide +kernel
theorem dX9_chain_94 : decode cX9_chain 94 = .ok (.ifCond .lt 61, 3) := by decide +kernel
theorem dX9_chain_97 : decode cX9_chain 97 = .ok (.aload_n 0, 1) := by decide +kernel
theorem dX9_chain_98 : decode cX9_chain 98 = .ok (.iload 7, 2) := by decide +kernel
theorem dX9_chain_100 : decode cX9_chain 100 = .ok (.invokevirtual 405, 3) := by decide +kernel
theorem dX9_chain_103 : decode cX9_chain 103 = .ok (.iload 5, 2) := by decide +kernel
theorem dX9_chain_105 : decode cX9_chain 105 = .ok (.if_icmp .ne 40, 3) := by decide +kernel
theorem dX9_chain_108 : decode cX9_chain 108 = .ok (.aload_n 0, 1) := by decide +kernel
theorem dX9_chain_109 : decode cX9_chain 109 = .ok (.getfield 107, 3) := by decide +kernel
theorem dX9_chain_112 : decode cX9_chain 112 = .ok (.iload 7, 2) := by decide +kernel
theorem dX9_chain_114 : decode cX9_chain 114 = .ok (.iaload, 1) := by decide +kernel
theorem dX9_chain_115 : decode cX9_chain 115 = .ok (.iload 5, 2) := by decide +kernel
theorem dX9_chain_117 : decode cX9_chain 117 = .ok (.if_icmp .eq 28, 3) := by decide +kernel
theorem dX9_chain_120 : decode cX9_chain 120 = .ok (.iload 4, 2) := by decide +kernel
theorem dX9_chain_122 : decode cX9_chain 122 = .ok (.aload_n 0, 1) := by decide +kernel
theorem dX9_chain_123 : decode cX9_chain 123 = .ok (.getfield 107, 3) := by decide +kernel
theorem dX9_chain_126 : decode cX9_chain 126 = .ok (.iload 7, 2) := by decide +kernel
theorem dX9_chain_128 : decode cX9_chain 128 = .ok (.iaload, 1) := by decide +kernel
theorem dX9_chain_129 : decode cX9_chain 129 = .ok (.invokestatic 363, 3) := by decide +kernel
theorem dX9_chain_132 : decode cX9_chain 132 = .ok (.ifCond .ne 13, 3) := by decide +kernel
theorem dX9_chain_135 : decode cX9_chain 135 = .ok (.aload_n 0, 1) := by decide +kernel
theorem dX9_chain_136 : decode cX9_chain 136 = .ok (.getfield 107, 3) := by decide +kernel
theorem dX9_chain_139 : decode cX9_chain 139 = .ok (.iload 7, 2) := by decide +kernel
theorem dX9_chain_141 : decode cX9_chain 141 = .ok (.iaload, 1) := by decide +kernel
theorem dX9_chain_142 : decode cX9_chain 142 = .ok (.goto 5, 3) := by decide +kernel
theorem dX9_chain_145 : decode cX9_chain 145 = .ok (.iload 6, 2) := by decide +kernel
theorem dX9_chain_147 : decode cX9_chain 147 = .ok (.istore 6, 2) := by decide +kernel
theorem dX9_chain_149 : decode cX9_chain 149 = .ok (.iinc 7 (-1), 3) := by decide +kernel
theorem dX9_chain_152 : decode cX9_chain 152 = .ok (.goto (-60), 3) := by decide +kernel
theorem dX9_chain_155 : decode cX9_chain 155 = .ok (.iload 6, 2) := by decide +kernel
theorem dX9_chain_157 : decode cX9_chain 157 = .ok (.istore 5, 2) := by decide +kernel
theorem dX9_chain_159 : decode cX9_chain 159 = .ok (.goto (-106), 3) := by decide +kernel
theorem dX9_chain_162 : decode cX9_chain 162 = .ok (.iload_n 2, 1) := by decide +kernel
theorem dX9_chain_163 : decode cX9_chain 163 = .ok (.iconst (-1), 1) := by decide +kernel
theorem dX9_chain_164 : decode cX9_chain 164 = .ok (.if_icmp .ne 7, 3) := by decide +kernel
theorem dX9_chain_167 : decode cX9_chain 167 = .ok (.iload_n 3, 1) := by decide +kernel
theorem dX9_chain_168 : decode cX9_chain 168 = .ok (.goto 4, 3) := by decide +kernel
theorem dX9_chain_171 : decode cX9_chain 171 = .ok (.iconst (-1), 1) := by decide +kernel
theorem dX9_chain_172 : decode cX9_chain 172 = .ok (.ireturn, 1) := by decide +kernel
def bX9_chain_0 (l : Launch) (E : Ev) (d : Nat) (Q : Option Value → Hp → Prop) : Kt := k_aload 0 (k_push (.int 0) (k_putI 9 55 0 (k_aload 0 (k_iload 1 (k_callV l E 9 55 YX9_isPart d 0 0 1 (k_if_eq (k_push (.int (-1)) (k_iret .int Q)) (k_aload 0 (k_callV l E 9 55 YX9_isPlayed d 0 0 0 (k_if_ne (k_push (.int 0) (k_istore 3 (k_push (.int 0) (k_istore 4 (k_aload 0 (k_getR 9 55 44 (k_iload 1 (k_iaload (k_aload 0 (k_iload 1 (k_callV l E 9 55 YX9_usually d 0 0 1 (k_icmp_eq (k_push (.int (-1)) (k_istore 5 (Go l E YX9_chain (d + 1) 0 0 Q 0 0 53))) (k_aload 0 (k_getR 9 55 44 (k_iload 1 (k_iaload (k_istore 5 (Go l E YX9_chain (d + 1) 0 0 Q 0 0 53)))))))))))))))))) (k_push (.int (-1)) (k_iret .int Q)))))))))))
set_option maxRecDepth 100000 in
set_option maxHeartbeats 4000000 in
theorem gX9_chain_0 {l : Launch} {E : Ev} {d : Nat} {Q : Option Value → Hp → Prop} {ls : Lv} {st : List Value} {h : Hp} (hB : bX9_chain_0 l E d Q ls st h) : Go l E YX9_chain (d + 1) 0 0 Q 0 0 0 ls st h :=
  (sd_aload_n (i := 0) rfl dX9_chain_0 (sd_iconst (v := 0) (by decide) dX9_chain_1 (sd_putI clsX9 (f := 0) (by decide) (fun _ _ _ => rfl) rfl (Or.inl rfl) mw_1178 dX9_chain_2 (sd_aload_n (i := 0) rfl dX9_chain_5 (sd_iload_n (i := 1) rfl dX9_chain_6 (sd_callV (Y' := YX9_isPart) (mc' := 0) (ms' := 0) (n := 1) clsX9.1 mw_1397 mw_1399 mw_49 mw_108 mw_1400 rfl (okmX9_isPart) (by decide) (Nat.le_refl _) (by decide) (by decide) dX9_chain_7 (sd_if_eq (tgt := 20) (by decide) dX9_chain_10 (sd_iconst (v := (-1)) (by decide) dX9_chain_20 (sd_iret (ty := .int) rfl (by decide) (by decide) dX9_chain_21)) (sd_aload_n (i := 0) rfl dX9_chain_13 (sd_callV (Y' := YX9_isPlayed) (mc' := 0) (ms' := 0) (n := 0) clsX9.1 mw_1626 mw_1628 mw_83 mw_108 mw_1629 rfl (okmX9_isPlayed) (by decide) (Nat.le_refl _) (by decide) (by decide) dX9_chain_14 (sd_if_ne (tgt := 22) (by decide) dX9_chain_17 (sd_iconst (v := 0) (by decide) dX9_chain_22 (sd_istore_n (i := 3) rfl (by decide) dX9_chain_23 (sd_iconst (v := 0) (by decide) dX9_chain_24 (sd_istore (i := 4) (by decide) dX9_chain_25 (sd_aload_n (i := 0) rfl dX9_chain_27 (sd_getR clsX9 (f := 44) (by decide) (fun _ _ _ => rfl) mw_1222 dX9_chain_28 (sd_iload_n (i := 1) rfl dX9_chain_31 (sd_iaload dX9_chain_32 (sd_aload_n (i := 0) rfl dX9_chain_33 (sd_iload_n (i := 1) rfl dX9_chain_34 (sd_callV (Y' := YX9_usually) (mc' := 0) (ms' := 0) (n := 1) clsX9.1 mw_1642 mw_1644 mw_86 mw_108 mw_1645 rfl (okmX9_usually) (by decide) (Nat.le_refl _) (by decide) (by decide) dX9_chain_35 (sd_icmp_eq (tgt := 50) (by decide) dX9_chain_38 (sd_iconst (v := (-1)) (by decide) dX9_chain_50 (sd_istore (i := 5) (by decide) dX9_chain_51 (Sd.go))) (sd_aload_n (i := 0) rfl dX9_chain_41 (sd_getR clsX9 (f := 44) (by decide) (fun _ _ _ => rfl) mw_1222 dX9_chain_42 (sd_iload_n (i := 1) rfl dX9_chain_45 (sd_iaload dX9_chain_46 (sd_goto (tgt := 51) (by decide) dX9_chain_47 (sd_istore (i := 5) (by decide) dX9_chain_51 (Sd.go))))))))))))))))))) (sd_iconst (v := (-1)) (by decide) dX9_chain_20 (sd_iret (ty := .int) rfl (by decide) (by decide) dX9_chain_21))))))))))) : Sd l E YX9_chain (d + 1) 0 0 Q 0 0 0 (bX9_chain_0 l E d Q)) ls st h hB
def bX9_chain_53 (l : Launch) (E : Ev) (d : Nat) (Q : Option Value → Hp → Prop) : Kt := k_iload 5 (k_push (.int (-1)) (k_icmp_eq (k_iload 2 (k_push (.int (-1)) (k_icmp_ne (k_push (.int (-1)) (k_iret .int Q)) (k_iload 3 (k_iret .int Q))))) (k_iload 3 (k_iload 2 (k_icmp_ne (k_iinc 3 1 (k_iload 4 (k_push (.int 1) (k_iload 5 (k_ishl (k_ior (k_istore 4 (k_push (.int (-1)) (k_istore 6 (k_aload 0 (k_getR 9 55 3 (k_push (.int 1) (k_iaload (k_push (.int 1) (k_isub (k_istore 7 (Go l E YX9_chain (d + 1) 0 0 Q 0 0 92))))))))))))))))) (k_iload 5 (k_iret .int Q)))))))
set_option maxRecDepth 100000 in
set_option maxHeartbeats 4000000 in
theorem gX9_chain_53 {l : Launch} {E : Ev} {d : Nat} {Q : Option Value → Hp → Prop} {ls : Lv} {st : List Value} {h : Hp} (hB : bX9_chain_53 l E d Q ls st h) : Go l E YX9_chain (d + 1) 0 0 Q 0 0 53 ls st h :=
  (sd_iload (n := 5) dX9_chain_53 (sd_iconst (v := (-1)) (by decide) dX9_chain_55 (sd_icmp_eq (tgt := 162) (by decide) dX9_chain_56 (sd_iload_n (i := 2) rfl dX9_chain_162 (sd_iconst (v := (-1)) (by decide) dX9_chain_163 (sd_icmp_ne (tgt := 171) (by decide) dX9_chain_164 (sd_iconst (v := (-1)) (by decide) dX9_chain_171 (sd_iret (ty := .int) rfl (by decide) (by decide) dX9_chain_172)) (sd_iload_n (i := 3) rfl dX9_chain_167 (sd_goto (tgt := 172) (by decide) dX9_chain_168 (sd_iret (ty := .int) rfl (by decide) (by decide) dX9_chain_172)))))) (sd_iload_n (i := 3) rfl dX9_chain_59 (sd_iload_n (i := 2) rfl dX9_chain_60 (sd_icmp_ne (tgt := 67) (by decide) dX9_chain_61 (sd_iinc (i := 3) (v := 1) (by decide) (by decide) dX9_chain_67 (sd_iload (n := 4) dX9_chain_70 (sd_iconst (v := 1) (by decide) dX9_chain_72 (sd_iload (n := 5) dX9_chain_73 (sd_ishl dX9_chain_75 (sd_ior dX9_chain_76 (sd_istore (i := 4) (by decide) dX9_chain_77 (sd_iconst (v := (-1)) (by decide) dX9_chain_79 (sd_istore (i := 6) (by decide) dX9_chain_80 (sd_aload_n (i := 0) rfl dX9_chain_82 (sd_getR clsX9 (f := 3) (by decide) (fun _ _ _ => rfl) mw_1181 dX9_chain_83 (sd_iconst (v := 1) (by decide) dX9_chain_86 (sd_iaload dX9_chain_87 (sd_iconst (v := 1) (by decide) dX9_chain_88 (sd_isub dX9_chain_89 (sd_istore (i := 7) (by decide) dX9_chain_90 (Sd.go))))))))))))))))) (sd_iload (n := 5) dX9_chain_64 (sd_iret (ty := .int) rfl (by decide) (by decide) dX9_chain_66))))))) : Sd l E YX9_chain (d + 1) 0 0 Q 0 0 53 (bX9_chain_53 l E d Q)) ls st h hB
def bX9_chain_92 (l : Launch) (E : Ev) (d : Nat) (Q : Option Value → Hp → Prop) : Kt := k_iload 7 (k_if_lt (k_iload 6 (k_istore 5 (Go l E YX9_chain (d + 1) 0 0 Q 0 0 53))) (k_aload 0 (k_iload 7 (k_callV l E 9 55 YX9_usually d 0 0 1 (k_iload 5 (k_icmp_ne (k_iload 6 (k_istore 6 (k_iinc 7 (-1) (Go l E YX9_chain (d + 1) 0 0 Q 0 0 92)))) (k_aload 0 (k_getR 9 55 44 (k_iload 7 (k_iaload (k_iload 5 (k_icmp_eq (k_iload 6 (k_istore 6 (k_iinc 7 (-1) (Go l E YX9_chain (d + 1) 0 0 Q 0 0 92)))) (k_iload 4 (k_aload 0 (k_getR 9 55 44 (k_iload 7 (k_iaload (k_callS l E YX9_is d 0 0 2 (k_if_ne (k_iload 6 (k_istore 6 (k_iinc 7 (-1) (Go l E YX9_chain (d + 1) 0 0 Q 0 0 92)))) (k_aload 0 (k_getR 9 55 44 (k_iload 7 (k_iaload (k_istore 6 (k_iinc 7 (-1) (Go l E YX9_chain (d + 1) 0 0 Q 0 0 92))))))))))))))))))))))))))
set_option maxRecDepth 100000 in
set_option maxHeartbeats 4000000 in
theorem gX9_chain_92 {l : Launch} {E : Ev} {d : Nat} {Q : Option Value → Hp → Prop} {ls : Lv} {st : List Value} {h : Hp} (hB : bX9_chain_92 l E d Q ls st h) : Go l E YX9_chain (d + 1) 0 0 Q 0 0 92 ls st h :=
  (sd_iload (n := 7) dX9_chain_92 (sd_if_lt (tgt := 155) (by decide) dX9_chain_94 (sd_iload (n := 6) dX9_chain_155 (sd_istore (i := 5) (by decide) dX9_chain_157 (sd_goto (tgt := 53) (by decide) dX9_chain_159 (Sd.go)))) (sd_aload_n (i := 0) rfl dX9_chain_97 (sd_iload (n := 7) dX9_chain_98 (sd_callV (Y' := YX9_usually) (mc' := 0) (ms' := 0) (n := 1) clsX9.1 mw_1642 mw_1644 mw_86 mw_108 mw_1645 rfl (okmX9_usually) (by decide) (Nat.le_refl _) (by decide) (by decide) dX9_chain_100 (sd_iload (n := 5) dX9_chain_103 (sd_icmp_ne (tgt := 145) (by decide) dX9_chain_105 (sd_iload (n := 6) dX9_chain_145 (sd_istore (i := 6) (by decide) dX9_chain_147 (sd_iinc (i := 7) (v := (-1)) (by decide) (by decide) dX9_chain_149 (sd_goto (tgt := 92) (by decide) dX9_chain_152 (Sd.go))))) (sd_aload_n (i := 0) rfl dX9_chain_108 (sd_getR clsX9 (f := 44) (by decide) (fun _ _ _ => rfl) mw_1222 dX9_chain_109 (sd_iload (n := 7) dX9_chain_112 (sd_iaload dX9_chain_114 (sd_iload (n := 5) dX9_chain_115 (sd_icmp_eq (tgt := 145) (by decide) dX9_chain_117 (sd_iload (n := 6) dX9_chain_145 (sd_istore (i := 6) (by decide) dX9_chain_147 (sd_iinc (i := 7) (v := (-1)) (by decide) (by decide) dX9_chain_149 (sd_goto (tgt := 92) (by decide) dX9_chain_152 (Sd.go))))) (sd_iload (n := 4) dX9_chain_120 (sd_aload_n (i := 0) rfl dX9_chain_122 (sd_getR clsX9 (f := 44) (by decide) (fun _ _ _ => rfl) mw_1222 dX9_chain_123 (sd_iload (n := 7) dX9_chain_126 (sd_iaload dX9_chain_128 (sd_callS (Y' := YX9_is) (mc' := 0) (ms' := 0) (n := 2) mw_1603 mw_1604 mw_108 mw_1605 (okmX9_is) (by decide) (Nat.le_refl _) (by decide) (by decide) dX9_chain_129 (sd_if_ne (tgt := 145) (by decide) dX9_chain_132 (sd_iload (n := 6) dX9_chain_145 (sd_istore (i := 6) (by decide) dX9_chain_147 (sd_iinc (i := 7) (v := (-1)) (by decide) (by decide) dX9_chain_149 (sd_goto (tgt := 92) (by decide) dX9_chain_152 (Sd.go))))) (sd_aload_n (i := 0) rfl dX9_chain_135 (sd_getR clsX9 (f := 44) (by decide) (fun _ _ _ => rfl) mw_1222 dX9_chain_136 (sd_iload (n := 7) dX9_chain_139 (sd_iaload dX9_chain_141 (sd_goto (tgt := 147) (by decide) dX9_chain_142 (sd_istore (i := 6) (by decide) dX9_chain_147 (sd_iinc (i := 7) (v := (-1)) (by decide) (by decide) dX9_chain_149 (sd_goto (tgt := 92) (by decide) dX9_chain_152 (Sd.go)))))))))))))))))))))))))))) : Sd l E YX9_chain (d + 1) 0 0 Q 0 0 92 (bX9_chain_92 l E d Q)) ls st h hB
theorem eX9_chain {l : Launch} {E : Ev} {d : Nat} {Q : Option Value → Hp → Prop} {h : Hp} {a0 : Nat} {x1 : Int32} {x2 : Int32} (hk : Go l E YX9_chain d 0 0 Q 0 0 0 [some (.ref a0), some (.int x1), some (.int x2), none, none, none, none, none] [] h) : GoM l E YX9_chain d 0 0 [.ref a0, .int x1, .int x2] h Q := GoM.of (by decide +kernel) rfl (by simp [entA, YX9_chain]) hk
theorem dX9_nth_0 : decode cX9_nth 0 = .ok (.aload_n 0, 1) := by decide +kernel
theorem dX9_nth_1 : decode cX9_nth 1 = .ok (.iconst 0, 1) := by decide +kernel
theorem dX9_nth_2 : decode cX9_nth 2 = .ok (.putfield 123, 3) := by decide +kernel
theorem dX9_nth_5 : decode cX9_nth 5 = .ok (.aload_n 0, 1) := by decide +kernel
theorem dX9_nth_6 : decode cX9_nth 6 = .ok (.iload_n 2, 1) := by decide +kernel
theorem dX9_nth_7 : decode cX9_nth 7 = .ok (.invokevirtual 163, 3) := by decide +kernel
theorem dX9_nth_10 : decode cX9_nth 10 = .ok (.ifCond .eq 7, 3) := by decide +kernel
theorem dX9_nth_13 : decode cX9_nth 13 = .ok (.iload_n 1, 1) := by decide +kernel
theorem dX9_nth_14 : decode cX9_nth 14 = .ok (.ifCond .ge 5, 3) := by decide +kernel
theorem dX9_nth_17 : decode cX9_nth 17 = .ok (.iconst (-1), 1) := by decide +kernel
theorem dX9_nth_18 : decode cX9_nth 18 = .ok (.ireturn, 1) := by decide +kernel
theorem dX9_nth_19 : decode cX9_nth 19 = .ok (.aload_n 0, 1) := by decide +kernel
theorem dX9_nth_20 : decode cX9_nth 20 = .ok (.invokevirtual 351, 3) := by decide +kernel
theorem dX9_nth_23 : decode cX9_nth 23 = .ok (.aload_n 0, 1) := by decide +kernel
theorem dX9_nth_24 : decode cX9_nth 24 = .ok (.invokevirtual 354, 3) := by decide +kernel
theorem dX9_nth_27 : decode cX9_nth 27 = .ok (.aload_n 0, 1) := by decide +kernel
theorem dX9_nth_28 : decode cX9_nth 28 = .ok (.aload_n 0, 1) := by decide +kernel
theorem dX9_nth_29 : decode cX9_nth 29 = .ok (.getfield 13, 3) := by decide +kernel
theorem dX9_nth_32 : decode cX9_nth 32 = .ok (.iconst 4, 1) := by decide +kernel
theorem dX9_nth_33 : decode cX9_nth 33 = .ok (.iaload, 1) := by decide +kernel
theorem dX9_nth_34 : decode cX9_nth 34 = .ok (.iload_n 1, 1) := by decide +kernel
theorem dX9_nth_35 : decode cX9_nth 35 = .ok (.invokevirtual 385, 3) := by decide +kernel
theorem dX9_nth_38 : decode cX9_nth 38 = .ok (.ifCond .eq 12, 3) := by decide +kernel
theorem dX9_nth_41 : decode cX9_nth 41 = .ok (.aload_n 0, 1) := by decide +kernel
theorem dX9_nth_42 : decode cX9_nth 42 = .ok (.getfield 107, 3) := by decide +kernel
theorem dX9_nth_45 : decode cX9_nth 45 = .ok (.iload_n 2, 1) := by decide +kernel
theorem dX9_nth_46 : decode cX9_nth 46 = .ok (.iaload, 1) := by decide +kernel
theorem dX9_nth_47 : decode cX9_nth 47 = .ok (.goto 4, 3) := by decide +kernel
theorem dX9_nth_50 : decode cX9_nth 50 = .ok (.iconst (-1), 1) := by decide +kernel
theorem dX9_nth_51 : decode cX9_nth 51 = .ok (.ireturn, 1) := by decide +kernel
def bX9_nth_0 (l : Launch) (E : Ev) (d : Nat) (Q : Option Value → Hp → Prop) : Kt := k_aload 0 (k_push (.int 0) (k_putI 9 55 0 (k_aload 0 (k_iload 2 (k_callV l E 9 55 YX9_isPart d 0 0 1 (k_if_eq (k_push (.int (-1)) (k_iret .int Q)) (k_iload 1 (k_if_ge (k_aload 0 (k_callV l E 9 55 YX9_asIs d 0 0 0 (k_aload 0 (k_callV l E 9 55 YX9_find d 0 0 0 (k_aload 0 (k_aload 0 (k_getR 9 55 3 (k_push (.int 4) (k_iaload (k_iload 1 (k_callV l E 9 55 YX9_findNth d 0 0 2 (k_if_eq (k_push (.int (-1)) (k_iret .int Q)) (k_aload 0 (k_getR 9 55 44 (k_iload 2 (k_iaload (k_iret .int Q))))))))))))))))) (k_push (.int (-1)) (k_iret .int Q))))))))))
set_option maxRecDepth 100000 in
set_option maxHeartbeats 4000000 in
theorem gX9_nth_0 {l : Launch} {E : Ev} {d : Nat} {Q : Option Value → Hp → Prop} {ls : Lv} {st : List Value} {h : Hp} (hB : bX9_nth_0 l E d Q ls st h) : Go l E YX9_nth (d + 1) 0 0 Q 0 0 0 ls st h :=
  (sd_aload_n (i := 0) rfl dX9_nth_0 (sd_iconst (v := 0) (by decide) dX9_nth_1 (sd_putI clsX9 (f := 0) (by decide) (fun _ _ _ => rfl) rfl (Or.inl rfl) mw_1178 dX9_nth_2 (sd_aload_n (i := 0) rfl dX9_nth_5 (sd_iload_n (i := 2) rfl dX9_nth_6 (sd_callV (Y' := YX9_isPart) (mc' := 0) (ms' := 0) (n := 1) clsX9.1 mw_1397 mw_1399 mw_49 mw_108 mw_1400 rfl (okmX9_isPart) (by decide) (Nat.le_refl _) (by decide) (by decide) dX9_nth_7 (sd_if_eq (tgt := 17) (by decide) dX9_nth_10 (sd_iconst (v := (-1)) (by decide) dX9_nth_17 (sd_iret (ty := .int) rfl (by decide) (by decide) dX9_nth_18)) (sd_iload_n (i := 1) rfl dX9_nth_13 (sd_if_ge (tgt := 19) (by decide) dX9_nth_14 (sd_aload_n (i := 0) rfl dX9_nth_19 (sd_callV (Y' := YX9_asIs) (mc' := 0) (ms' := 0) (n := 0) clsX9.1 mw_1559 mw_1561 mw_71 mw_108 mw_1562 rfl (okmX9_asIs) (by decide) (Nat.le_refl _) (by decide) (by decide) dX9_nth_20 (sd_aload_n (i := 0) rfl dX9_nth_23 (sd_callV (Y' := YX9_find) (mc' := 0) (ms' := 0) (n := 0) clsX9.1 mw_1563 mw_1565 mw_72 mw_108 mw_1566 rfl (okmX9_find) (by decide) (Nat.le_refl _) (by decide) (by decide) dX9_nth_24 (sd_aload_n (i := 0) rfl dX9_nth_27 (sd_aload_n (i := 0) rfl dX9_nth_28 (sd_getR clsX9 (f := 3) (by decide) (fun _ _ _ => rfl) mw_1181 dX9_nth_29 (sd_iconst (v := 4) (by decide) dX9_nth_32 (sd_iaload dX9_nth_33 (sd_iload_n (i := 1) rfl dX9_nth_34 (sd_callV (Y' := YX9_findNth) (mc' := 0) (ms' := 0) (n := 2) clsX9.1 mw_1634 mw_1636 mw_85 mw_108 mw_1637 rfl (okmX9_findNth) (by decide) (Nat.le_refl _) (by decide) (by decide) dX9_nth_35 (sd_if_eq (tgt := 50) (by decide) dX9_nth_38 (sd_iconst (v := (-1)) (by decide) dX9_nth_50 (sd_iret (ty := .int) rfl (by decide) (by decide) dX9_nth_51)) (sd_aload_n (i := 0) rfl dX9_nth_41 (sd_getR clsX9 (f := 44) (by decide) (fun _ _ _ => rfl) mw_1222 dX9_nth_42 (sd_iload_n (i := 2) rfl dX9_nth_45 (sd_iaload dX9_nth_46 (sd_goto (tgt := 51) (by decide) dX9_nth_47 (sd_iret (ty := .int) rfl (by decide) (by decide) dX9_nth_51)))))))))))))))))) (sd_iconst (v := (-1)) (by decide) dX9_nth_17 (sd_iret (ty := .int) rfl (by decide) (by decide) dX9_nth_18)))))))))) : Sd l E YX9_nth (d + 1) 0 0 Q 0 0 0 (bX9_nth_0 l E d Q)) ls st h hB
theorem eX9_nth {l : Launch} {E : Ev} {d : Nat} {Q : Option Value → Hp → Prop} {h : Hp} {a0 : Nat} {x1 : Int32} {x2 : Int32} (hk : Go l E YX9_nth d 0 0 Q 0 0 0 [some (.ref a0), some (.int x1), some (.int x2)] [] h) : GoM l E YX9_nth d 0 0 [.ref a0, .int x1, .int x2] h Q := GoM.of (by decide +kernel) rfl (by simp [entA, YX9_nth]) hk
theorem dX9_gives_0 : decode cX9_gives 0 = .ok (.aload_n 0, 1) := by decide +kernel
theorem dX9_gives_1 : decode cX9_gives 1 = .ok (.iconst 0, 1) := by decide +kernel
theorem dX9_gives_2 : decode cX9_gives 2 = .ok (.putfield 123, 3) := by decide +kernel
theorem dX9_gives_5 : decode cX9_gives 5 = .ok (.aload_n 0, 1) := by decide +kernel
theorem dX9_gives_6 : decode cX9_gives 6 = .ok (.iload_n 1, 1) := by decide +kernel
theorem dX9_gives_7 : decode cX9_gives 7 = .ok (.invokevirtual 155, 3) := by decide +kernel
theorem dX9_gives_10 : decode cX9_gives 10 = .ok (.ifCond .ne 10, 3) := by decide +kernel
theorem dX9_gives_13 : decode cX9_gives 13 = .ok (.aload_n 0, 1) := by decide +kernel
theorem dX9_gives_14 : decode cX9_gives 14 = .ok (.bipush (-2), 2) := by decide +kernel
theorem dX9_gives_16 : decode cX9_gives 16 = .ok (.invokevirtual 137, 3) := by decide +kernel
theorem dX9_gives_19 : decode cX9_gives 19 = .ok (.ireturn, 1) := by decide +kernel
theorem dX9_gives_20 : decode cX9_gives 20 = .ok (.aload_n 0, 1) := by decide +kernel
theorem dX9_gives_21 : decode cX9_gives 21 = .ok (.getfield 13, 3) := by decide +kernel
theorem dX9_gives_24 : decode cX9_gives 24 = .ok (.bipush 9, 2) := by decide +kernel
theorem dX9_gives_26 : decode cX9_gives 26 = .ok (.iaload, 1) := by decide +kernel
theorem dX9_gives_27 : decode cX9_gives 27 = .ok (.aload_n 0, 1) := by decide +kernel
theorem dX9_gives_28 : decode cX9_gives 28 = .ok (.getfield 13, 3) := by decide +kernel
theorem dX9_gives_31 : decode cX9_gives 31 = .ok (.iconst 1, 1) := by decide +kernel
theorem dX9_gives_32 : decode cX9_gives 32 = .ok (.iaload, 1) := by decide +kernel
theorem dX9_gives_33 : decode cX9_gives 33 = .ok (.if_icmp .ne 10, 3) := by decide +kernel
theorem dX9_gives_36 : decode cX9_gives 36 = .ok (.aload_n 0, 1) := by decide +kernel
theorem dX9_gives_37 : decode cX9_gives 37 = .ok (.bipush (-3), 2) := by decide +kernel
theorem dX9_gives_39 : decode cX9_gives 39 = .ok (.invokevirtual 137, 3) := by decide +kernel
theorem dX9_gives_42 : decode cX9_gives 42 = .ok (.ireturn, 1) := by decide +kernel
theorem dX9_gives_43 : decode cX9_gives 43 = .ok (.aload_n 0, 1) := by decide +kernel
theorem dX9_gives_44 : decode cX9_gives 44 = .ok (.getfield 13, 3) := by decide +kernel
theorem dX9_gives_47 : decode cX9_gives 47 = .ok (.sipush 166, 3) := by decide +kernel
theorem dX9_gives_50 : decode cX9_gives 50 = .ok (.aload_n 0, 1) := by decide +kernel
theorem dX9_gives_51 : decode cX9_gives 51 = .ok (.getfield 13, 3) := by decide +kernel
theorem dX9_gives_54 : decode cX9_gives 54 = .ok (.bipush 9, 2) := by decide +kernel
theorem dX9_gives_56 : decode cX9_gives 56 = .ok (.iaload, 1) := by decide +kernel
theorem dX9_gives_57 : decode cX9_gives 57 = .ok (.iadd, 1) := by decide +kernel
theorem dX9_gives_58 : decode cX9_gives 58 = .ok (.iload_n 1, 1) := by decide +kernel
theorem dX9_gives_59 : decode cX9_gives 59 = .ok (.iastore, 1) := by decide +kernel
theorem dX9_gives_60 : decode cX9_gives 60 = .ok (.aload_n 0, 1) := by decide +kernel
theorem dX9_gives_61 : decode cX9_gives 61 = .ok (.getfield 13, 3) := by decide +kernel
theorem dX9_gives_64 : decode cX9_gives 64 = .ok (.bipush 9, 2) := by decide +kernel
theorem dX9_gives_66 : decode cX9_gives 66 = .ok (.dup2, 1) := by decide +kernel
theorem dX9_gives_67 : decode cX9_gives 67 = .ok (.iaload, 1) := by decide +kernel
theorem dX9_gives_68 : decode cX9_gives 68 = .ok (.iconst 1, 1) := by decide +kernel
theorem dX9_gives_69 : decode cX9_gives 69 = .ok (.iadd, 1) := by decide +kernel
theorem dX9_gives_70 : decode cX9_gives 70 = .ok (.iastore, 1) := by decide +kernel
theorem dX9_gives_71 : decode cX9_gives 71 = .ok (.aload_n 0, 1) := by decide +kernel
theorem dX9_gives_72 : decode cX9_gives 72 = .ok (.aload_n 0, 1) := by decide +kernel
theorem dX9_gives_73 : decode cX9_gives 73 = .ok (.getfield 13, 3) := by decide +kernel
theorem dX9_gives_76 : decode cX9_gives 76 = .ok (.bipush 9, 2) := by decide +kernel
theorem dX9_gives_78 : decode cX9_gives 78 = .ok (.iaload, 1) := by decide +kernel
theorem dX9_gives_79 : decode cX9_gives 79 = .ok (.invokevirtual 137, 3) := by decide +kernel
theorem dX9_gives_82 : decode cX9_gives 82 = .ok (.ireturn, 1) := by decide +kernel
def bX9_gives_0 (l : Launch) (E : Ev) (d : Nat) (Q : Option Value → Hp → Prop) : Kt := k_aload 0 (k_push (.int 0) (k_putI 9 55 0 (k_aload 0 (k_iload 1 (k_callV l E 9 55 YX9_isActor d 0 0 1 (k_if_ne (k_aload 0 (k_getR 9 55 3 (k_push (.int 9) (k_iaload (k_aload 0 (k_getR 9 55 3 (k_push (.int 1) (k_iaload (k_icmp_ne (k_aload 0 (k_getR 9 55 3 (k_push (.int 166) (k_aload 0 (k_getR 9 55 3 (k_push (.int 9) (k_iaload (k_iadd (k_iload 1 (k_iastore (k_aload 0 (k_getR 9 55 3 (k_push (.int 9) (k_dup2 (k_iaload (k_push (.int 1) (k_iadd (k_iastore (k_aload 0 (k_aload 0 (k_getR 9 55 3 (k_push (.int 9) (k_iaload (k_callV l E 9 55 YX9_tell d 0 0 1 (k_iret .int Q))))))))))))))))))))))))) (k_aload 0 (k_push (.int (-3)) (k_callV l E 9 55 YX9_tell d 0 0 1 (k_iret .int Q))))))))))))) (k_aload 0 (k_push (.int (-2)) (k_callV l E 9 55 YX9_tell d 0 0 1 (k_iret .int Q))))))))))
set_option maxRecDepth 100000 in
set_option maxHeartbeats 4000000 in
theorem gX9_gives_0 {l : Launch} {E : Ev} {d : Nat} {Q : Option Value → Hp → Prop} {ls : Lv} {st : List Value} {h : Hp} (hB : bX9_gives_0 l E d Q ls st h) : Go l E YX9_gives (d + 1) 0 0 Q 0 0 0 ls st h :=
  (sd_aload_n (i := 0) rfl dX9_gives_0 (sd_iconst (v := 0) (by decide) dX9_gives_1 (sd_putI clsX9 (f := 0) (by decide) (fun _ _ _ => rfl) rfl (Or.inl rfl) mw_1178 dX9_gives_2 (sd_aload_n (i := 0) rfl dX9_gives_5 (sd_iload_n (i := 1) rfl dX9_gives_6 (sd_callV (Y' := YX9_isActor) (mc' := 0) (ms' := 0) (n := 1) clsX9.1 mw_1381 mw_1383 mw_46 mw_108 mw_1384 rfl (okmX9_isActor) (by decide) (Nat.le_refl _) (by decide) (by decide) dX9_gives_7 (sd_if_ne (tgt := 20) (by decide) dX9_gives_10 (sd_aload_n (i := 0) rfl dX9_gives_20 (sd_getR clsX9 (f := 3) (by decide) (fun _ _ _ => rfl) mw_1181 dX9_gives_21 (sd_bipush (v := 9) (by decide) dX9_gives_24 (sd_iaload dX9_gives_26 (sd_aload_n (i := 0) rfl dX9_gives_27 (sd_getR clsX9 (f := 3) (by decide) (fun _ _ _ => rfl) mw_1181 dX9_gives_28 (sd_iconst (v := 1) (by decide) dX9_gives_31 (sd_iaload dX9_gives_32 (sd_icmp_ne (tgt := 43) (by decide) dX9_gives_33 (sd_aload_n (i := 0) rfl dX9_gives_43 (sd_getR clsX9 (f := 3) (by decide) (fun _ _ _ => rfl) mw_1181 dX9_gives_44 (sd_sipush (v := 166) (by decide) dX9_gives_47 (sd_aload_n (i := 0) rfl dX9_gives_50 (sd_getR clsX9 (f := 3) (by decide) (fun _ _ _ => rfl) mw_1181 dX9_gives_51 (sd_bipush (v := 9) (by decide) dX9_gives_54 (sd_iaload dX9_gives_56 (sd_iadd dX9_gives_57 (sd_iload_n (i := 1) rfl dX9_gives_58 (sd_iastore dX9_gives_59 (sd_aload_n (i := 0) rfl dX9_gives_60 (sd_getR clsX9 (f := 3) (by decide) (fun _ _ _ => rfl) mw_1181 dX9_gives_61 (sd_bipush (v := 9) (by decide) dX9_gives_64 (sd_dup2 dX9_gives_66 (sd_iaload dX9_gives_67 (sd_iconst (v := 1) (by decide) dX9_gives_68 (sd_iadd dX9_gives_69 (sd_iastore dX9_gives_70 (sd_aload_n (i := 0) rfl dX9_gives_71 (sd_aload_n (i := 0) rfl dX9_gives_72 (sd_getR clsX9 (f := 3) (by decide) (fun _ _ _ => rfl) mw_1181 dX9_gives_73 (sd_bipush (v := 9) (by decide) dX9_gives_76 (sd_iaload dX9_gives_78 (sd_callV (Y' := YX9_tell) (mc' := 0) (ms' := 0) (n := 1) clsX9.1 mw_1351 mw_1353 mw_45 mw_108 mw_1354 rfl (okmX9_tell) (by decide) (Nat.le_refl _) (by decide) (by decide) dX9_gives_79 (sd_iret (ty := .int) rfl (by decide) (by decide) dX9_gives_82))))))))))))))))))))))))) (sd_aload_n (i := 0) rfl dX9_gives_36 (sd_bipush (v := (-3)) (by decide) dX9_gives_37 (sd_callV (Y' := YX9_tell) (mc' := 0) (ms' := 0) (n := 1) clsX9.1 mw_1351 mw_1353 mw_45 mw_108 mw_1354 rfl (okmX9_tell) (by decide) (Nat.le_refl _) (by decide) (by decide) dX9_gives_39 (sd_iret (ty := .int) rfl (by decide) (by decide) dX9_gives_42))))))))))))) (sd_aload_n (i := 0) rfl dX9_gives_13 (sd_bipush (v := (-2)) (by decide) dX9_gives_14 (sd_callV (Y' := YX9_tell) (mc' := 0) (ms' := 0) (n := 1) clsX9.1 mw_1351 mw_1353 mw_45 mw_108 mw_1354 rfl (okmX9_tell) (by decide) (Nat.le_refl _) (by decide) (by decide) dX9_gives_16 (sd_iret (ty := .int) rfl (by decide) (by decide) dX9_gives_19)))))))))) : Sd l E YX9_gives (d + 1) 0 0 Q 0 0 0 (bX9_gives_0 l E d Q)) ls st h hB
theorem eX9_gives {l : Launch} {E : Ev} {d : Nat} {Q : Option Value → Hp → Prop} {h : Hp} {a0 : Nat} {x1 : Int32} (hk : Go l E YX9_gives d 0 0 Q 0 0 0 [some (.ref a0), some (.int x1)] [] h) : GoM l E YX9_gives d 0 0 [.ref a0, .int x1] h Q := GoM.of (by decide +kernel) rfl (by simp [entA, YX9_gives]) hk
