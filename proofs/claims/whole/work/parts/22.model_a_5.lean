theorem dX9_clear_0 : decode cX9_clear 0 = .ok (.aload_n 0, 1) := by decide +kernel
theorem dX9_clear_1 : decode cX9_clear 1 = .ok (.iconst 0, 1) := by decide +kernel
theorem dX9_clear_2 : decode cX9_clear 2 = .ok (.putfield 123, 3) := by decide +kernel
theorem dX9_clear_5 : decode cX9_clear 5 = .ok (.aload_n 0, 1) := by decide +kernel
theorem dX9_clear_6 : decode cX9_clear 6 = .ok (.getfield 13, 3) := by decide +kernel
theorem dX9_clear_9 : decode cX9_clear 9 = .ok (.bipush 9, 2) := by decide +kernel
theorem dX9_clear_11 : decode cX9_clear 11 = .ok (.iaload, 1) := by decide +kernel
theorem dX9_clear_12 : decode cX9_clear 12 = .ok (.istore_n 1, 1) := by decide +kernel
theorem dX9_clear_13 : decode cX9_clear 13 = .ok (.aload_n 0, 1) := by decide +kernel
theorem dX9_clear_14 : decode cX9_clear 14 = .ok (.getfield 13, 3) := by decide +kernel
theorem dX9_clear_17 : decode cX9_clear 17 = .ok (.bipush 9, 2) := by decide +kernel
theorem dX9_clear_19 : decode cX9_clear 19 = .ok (.iconst 0, 1) := by decide +kernel
theorem dX9_clear_20 : decode cX9_clear 20 = .ok (.iastore, 1) := by decide +kernel
theorem dX9_clear_21 : decode cX9_clear 21 = .ok (.iload_n 1, 1) := by decide +kernel
theorem dX9_clear_22 : decode cX9_clear 22 = .ok (.ireturn, 1) := by decide +kernel
def bX9_clear_0 (l : Launch) (E : Ev) (d : Nat) (Q : Option Value → Hp → Prop) : Kt := k_aload 0 (k_push (.int 0) (k_putI 9 55 0 (k_aload 0 (k_getR 9 55 3 (k_push (.int 9) (k_iaload (k_istore 1 (k_aload 0 (k_getR 9 55 3 (k_push (.int 9) (k_push (.int 0) (k_iastore (k_iload 1 (k_iret .int Q))))))))))))))
set_option maxRecDepth 100000 in
set_option maxHeartbeats 4000000 in
theorem gX9_clear_0 {l : Launch} {E : Ev} {d : Nat} {Q : Option Value → Hp → Prop} {ls : Lv} {st : List Value} {h : Hp} (hB : bX9_clear_0 l E d Q ls st h) : Go l E YX9_clear (d + 1) 0 0 Q 0 0 0 ls st h :=
  (sd_aload_n (i := 0) rfl dX9_clear_0 (sd_iconst (v := 0) (by decide) dX9_clear_1 (sd_putI clsX9 (f := 0) (by decide) (fun _ _ _ => rfl) rfl (Or.inl rfl) mw_1178 dX9_clear_2 (sd_aload_n (i := 0) rfl dX9_clear_5 (sd_getR clsX9 (f := 3) (by decide) (fun _ _ _ => rfl) mw_1181 dX9_clear_6 (sd_bipush (v := 9) (by decide) dX9_clear_9 (sd_iaload dX9_clear_11 (sd_istore_n (i := 1) rfl (by decide) dX9_clear_12 (sd_aload_n (i := 0) rfl dX9_clear_13 (sd_getR clsX9 (f := 3) (by decide) (fun _ _ _ => rfl) mw_1181 dX9_clear_14 (sd_bipush (v := 9) (by decide) dX9_clear_17 (sd_iconst (v := 0) (by decide) dX9_clear_19 (sd_iastore dX9_clear_20 (sd_iload_n (i := 1) rfl dX9_clear_21 (sd_iret (ty := .int) rfl (by decide) (by decide) dX9_clear_22)))))))))))))) : Sd l E YX9_clear (d + 1) 0 0 Q 0 0 0 (bX9_clear_0 l E d Q)) ls st h hB
theorem eX9_clear {l : Launch} {E : Ev} {d : Nat} {Q : Option Value → Hp → Prop} {h : Hp} {a0 : Nat} (hk : Go l E YX9_clear d 0 0 Q 0 0 0 [some (.ref a0), none] [] h) : GoM l E YX9_clear d 0 0 [.ref a0] h Q := GoM.of (by decide +kernel) rfl (by simp [entA, YX9_clear]) hk
theorem dX9_isRight_0 : decode cX9_isRight 0 = .ok (.aload_n 0, 1) := by decide +kernel
theorem dX9_isRight_1 : decode cX9_isRight 1 = .ok (.getfield 13, 3) := by decide +kernel
theorem dX9_isRight_4 : decode cX9_isRight 4 = .ok (.sipush 166, 3) := by decide +kernel
theorem dX9_isRight_7 : decode cX9_isRight 7 = .ok (.iload_n 1, 1) := by decide +kernel
theorem dX9_isRight_8 : decode cX9_isRight 8 = .ok (.iadd, 1) := by decide +kernel
theorem dX9_isRight_9 : decode cX9_isRight 9 = .ok (.iaload, 1) := by decide +kernel
theorem dX9_isRight_10 : decode cX9_isRight 10 = .ok (.istore_n 2, 1) := by decide +kernel
theorem dX9_isRight_11 : decode cX9_isRight 11 = .ok (.iconst 0, 1) := by decide +kernel
theorem dX9_isRight_12 : decode cX9_isRight 12 = .ok (.istore_n 3, 1) := by decide +kernel
theorem dX9_isRight_13 : decode cX9_isRight 13 = .ok (.aload_n 0, 1) := by decide +kernel
theorem dX9_isRight_14 : decode cX9_isRight 14 = .ok (.getfield 89, 3) := by decide +kernel
theorem dX9_isRight_17 : decode cX9_isRight 17 = .ok (.bipush 8, 2) := by decide +kernel
theorem dX9_isRight_19 : decode cX9_isRight 19 = .ok (.iload_n 2, 1) := by decide +kernel
theorem dX9_isRight_20 : decode cX9_isRight 20 = .ok (.imul, 1) := by decide +kernel
theorem dX9_isRight_21 : decode cX9_isRight 21 = .ok (.iload_n 1, 1) := by decide +kernel
theorem dX9_isRight_22 : decode cX9_isRight 22 = .ok (.iadd, 1) := by decide +kernel
theorem dX9_isRight_23 : decode cX9_isRight 23 = .ok (.baload, 1) := by decide +kernel
theorem dX9_isRight_24 : decode cX9_isRight 24 = .ok (.ifCond .eq 20, 3) := by decide +kernel
theorem dX9_isRight_27 : decode cX9_isRight 27 = .ok (.aload_n 0, 1) := by decide +kernel
theorem dX9_isRight_28 : decode cX9_isRight 28 = .ok (.getfield 13, 3) := by decide +kernel
theorem dX9_isRight_31 : decode cX9_isRight 31 = .ok (.iconst 4, 1) := by decide +kernel
theorem dX9_isRight_32 : decode cX9_isRight 32 = .ok (.iaload, 1) := by decide +kernel
theorem dX9_isRight_33 : decode cX9_isRight 33 = .ok (.iload_n 2, 1) := by decide +kernel
theorem dX9_isRight_34 : decode cX9_isRight 34 = .ok (.invokestatic 363, 3) := by decide +kernel
theorem dX9_isRight_37 : decode cX9_isRight 37 = .ok (.ifCond .ne 7, 3) := by decide +kernel
theorem dX9_isRight_40 : decode cX9_isRight 40 = .ok (.iconst 1, 1) := by decide +kernel
theorem dX9_isRight_41 : decode cX9_isRight 41 = .ok (.goto 4, 3) := by decide +kernel
theorem dX9_isRight_44 : decode cX9_isRight 44 = .ok (.iconst 0, 1) := by decide +kernel
theorem dX9_isRight_45 : decode cX9_isRight 45 = .ok (.istore 4, 2) := by decide +kernel
theorem dX9_isRight_47 : decode cX9_isRight 47 = .ok (.iconst 0, 1) := by decide +kernel
theorem dX9_isRight_48 : decode cX9_isRight 48 = .ok (.istore 5, 2) := by decide +kernel
theorem dX9_isRight_50 : decode cX9_isRight 50 = .ok (.iload 5, 2) := by decide +kernel
theorem dX9_isRight_52 : decode cX9_isRight 52 = .ok (.iload_n 1, 1) := by decide +kernel
theorem dX9_isRight_53 : decode cX9_isRight 53 = .ok (.if_icmp .ge 49, 3) := by decide +kernel
theorem dX9_isRight_56 : decode cX9_isRight 56 = .ok (.aload_n 0, 1) := by decide +kernel
theorem dX9_isRight_57 : decode cX9_isRight 57 = .ok (.getfield 13, 3) := by decide +kernel
theorem dX9_isRight_60 : decode cX9_isRight 60 = .ok (.sipush 166, 3) := by decide +kernel
theorem dX9_isRight_63 : decode cX9_isRight 63 = .ok (.iload 5, 2) := by decide +kernel
theorem dX9_isRight_65 : decode cX9_isRight 65 = .ok (.iadd, 1) := by decide +kernel
theorem dX9_isRight_66 : decode cX9_isRight 66 = .ok (.iaload, 1) := by decide +kernel
theorem dX9_isRight_67 : decode cX9_isRight 67 = .ok (.iload_n 2, 1) := by decide +kernel
theorem dX9_isRight_68 : decode cX9_isRight 68 = .ok (.if_icmp .ne 28, 3) := by decide +kernel
theorem dX9_isRight_71 : decode cX9_isRight 71 = .ok (.iinc 3 1, 3) := by decide +kernel
theorem dX9_isRight_74 : decode cX9_isRight 74 = .ok (.iload 4, 2) := by decide +kernel
theorem dX9_isRight_76 : decode cX9_isRight 76 = .ok (.ifCond .eq 17, 3) := by decide +kernel
theorem dX9_isRight_79 : decode cX9_isRight 79 = .ok (.aload_n 0, 1) := by decide +kernel
theorem dX9_isRight_80 : decode cX9_isRight 80 = .ok (.iload_n 1, 1) := by decide +kernel
theorem dX9_isRight_81 : decode cX9_isRight 81 = .ok (.iload 5, 2) := by decide +kernel
theorem dX9_isRight_83 : decode cX9_isRight 83 = .ok (.invokevirtual 373, 3) := by decide +kernel
theorem dX9_isRight_86 : decode cX9_isRight 86 = .ok (.ifCond .eq 7, 3) := by decide +kernel
theorem dX9_isRight_89 : decode cX9_isRight 89 = .ok (.iconst 1, 1) := by decide +kernel
theorem dX9_isRight_90 : decode cX9_isRight 90 = .ok (.goto 4, 3) := by decide +kernel
theorem dX9_isRight_93 : decode cX9_isRight 93 = .ok (.iconst 0, 1) := by decide +kernel
theorem dX9_isRight_94 : decode cX9_isRight 94 = .ok (.istore 4, 2) := by decide +kernel
theorem dX9_isRight_96 : decode cX9_isRight 96 = .ok (.iinc 5 1, 3) := by decide +kernel
theorem dX9_isRight_99 : decode cX9_isRight 99 = .ok (.goto (-49), 3) := by decide +kernel
theorem dX9_isRight_102 : decode cX9_isRight 102 = .ok (.iload 4, 2) := by decide +kernel
theorem dX9_isRight_104 : decode cX9_isRight 104 = .ok (.ifCond .eq 12, 3) := by decide +kernel
theorem dX9_isRight_107 : decode cX9_isRight 107 = .ok (.iload_n 3, 1) := by decide +kernel
theorem dX9_isRight_108 : decode cX9_isRight 108 = .ok (.iconst 2, 1) := by decide +kernel
theorem dX9_isRight_109 : decode cX9_isRight 109 = .ok (.if_icmp .ge 7, 3) := by decide +kernel
theorem dX9_isRight_112 : decode cX9_isRight 112 = .ok (.iconst 1, 1) := by decide +kernel
theorem dX9_isRight_113 : decode cX9_isRight 113 = .ok (.goto 4, 3) := by decide +kernel
theorem dX9_isRight_116 : decode cX9_isRight 116 = .ok (.iconst 0, 1) := by decide +kernel
theorem dX9_isRight_117 : decode cX9_isRight 117 = .ok (.ireturn, 1) := by decide +kernel
def bX9_isRight_0 (l : Launch) (E : Ev) (d : Nat) (Q : Option Value → Hp → Prop) : Kt := k_aload 0 (k_getR 9 55 3 (k_push (.int 166) (k_iload 1 (k_iadd (k_iaload (k_istore 2 (k_push (.int 0) (k_istore 3 (k_aload 0 (k_getR 9 55 35 (k_push (.int 8) (k_iload 2 (k_imul (k_iload 1 (k_iadd (k_zaload (k_if_eq (k_push (.int 0) (k_istore 4 (k_push (.int 0) (k_istore 5 (Go l E YX9_isRight (d + 1) 0 0 Q 0 0 50))))) (k_aload 0 (k_getR 9 55 3 (k_push (.int 4) (k_iaload (k_iload 2 (k_callS l E YX9_is d 0 0 2 (k_if_ne (k_push (.int 0) (k_istore 4 (k_push (.int 0) (k_istore 5 (Go l E YX9_isRight (d + 1) 0 0 Q 0 0 50))))) (k_push (.int 1) (k_istore 4 (k_push (.int 0) (k_istore 5 (Go l E YX9_isRight (d + 1) 0 0 Q 0 0 50)))))))))))))))))))))))))))))
set_option maxRecDepth 100000 in
set_option maxHeartbeats 4000000 in
theorem gX9_isRight_0 {l : Launch} {E : Ev} {d : Nat} {Q : Option Value → Hp → Prop} {ls : Lv} {st : List Value} {h : Hp} (hB : bX9_isRight_0 l E d Q ls st h) : Go l E YX9_isRight (d + 1) 0 0 Q 0 0 0 ls st h :=
  (sd_aload_n (i := 0) rfl dX9_isRight_0 (sd_getR clsX9 (f := 3) (by decide) (fun _ _ _ => rfl) mw_1181 dX9_isRight_1 (sd_sipush (v := 166) (by decide) dX9_isRight_4 (sd_iload_n (i := 1) rfl dX9_isRight_7 (sd_iadd dX9_isRight_8 (sd_iaload dX9_isRight_9 (sd_istore_n (i := 2) rfl (by decide) dX9_isRight_10 (sd_iconst (v := 0) (by decide) dX9_isRight_11 (sd_istore_n (i := 3) rfl (by decide) dX9_isRight_12 (sd_aload_n (i := 0) rfl dX9_isRight_13 (sd_getR clsX9 (f := 35) (by decide) (fun _ _ _ => rfl) mw_1213 dX9_isRight_14 (sd_bipush (v := 8) (by decide) dX9_isRight_17 (sd_iload_n (i := 2) rfl dX9_isRight_19 (sd_imul dX9_isRight_20 (sd_iload_n (i := 1) rfl dX9_isRight_21 (sd_iadd dX9_isRight_22 (sd_zaload dX9_isRight_23 (sd_if_eq (tgt := 44) (by decide) dX9_isRight_24 (sd_iconst (v := 0) (by decide) dX9_isRight_44 (sd_istore (i := 4) (by decide) dX9_isRight_45 (sd_iconst (v := 0) (by decide) dX9_isRight_47 (sd_istore (i := 5) (by decide) dX9_isRight_48 (Sd.go))))) (sd_aload_n (i := 0) rfl dX9_isRight_27 (sd_getR clsX9 (f := 3) (by decide) (fun _ _ _ => rfl) mw_1181 dX9_isRight_28 (sd_iconst (v := 4) (by decide) dX9_isRight_31 (sd_iaload dX9_isRight_32 (sd_iload_n (i := 2) rfl dX9_isRight_33 (sd_callS (Y' := YX9_is) (mc' := 0) (ms' := 0) (n := 2) mw_1603 mw_1604 mw_108 mw_1605 (okmX9_is) (by decide) (Nat.le_refl _) (by decide) (by decide) dX9_isRight_34 (sd_if_ne (tgt := 44) (by decide) dX9_isRight_37 (sd_iconst (v := 0) (by decide) dX9_isRight_44 (sd_istore (i := 4) (by decide) dX9_isRight_45 (sd_iconst (v := 0) (by decide) dX9_isRight_47 (sd_istore (i := 5) (by decide) dX9_isRight_48 (Sd.go))))) (sd_iconst (v := 1) (by decide) dX9_isRight_40 (sd_goto (tgt := 45) (by decide) dX9_isRight_41 (sd_istore (i := 4) (by decide) dX9_isRight_45 (sd_iconst (v := 0) (by decide) dX9_isRight_47 (sd_istore (i := 5) (by decide) dX9_isRight_48 (Sd.go)))))))))))))))))))))))))))))) : Sd l E YX9_isRight (d + 1) 0 0 Q 0 0 0 (bX9_isRight_0 l E d Q)) ls st h hB
def bX9_isRight_50 (l : Launch) (E : Ev) (d : Nat) (Q : Option Value → Hp → Prop) : Kt := k_iload 5 (k_iload 1 (k_icmp_ge (k_iload 4 (k_if_eq (k_push (.int 0) (k_iret .boolean Q)) (k_iload 3 (k_push (.int 2) (k_icmp_ge (k_push (.int 0) (k_iret .boolean Q)) (k_push (.int 1) (k_iret .boolean Q))))))) (k_aload 0 (k_getR 9 55 3 (k_push (.int 166) (k_iload 5 (k_iadd (k_iaload (k_iload 2 (k_icmp_ne (k_iinc 5 1 (Go l E YX9_isRight (d + 1) 0 0 Q 0 0 50)) (k_iinc 3 1 (k_iload 4 (k_if_eq (k_push (.int 0) (k_istore 4 (k_iinc 5 1 (Go l E YX9_isRight (d + 1) 0 0 Q 0 0 50)))) (k_aload 0 (k_iload 1 (k_iload 5 (k_callV l E 9 55 YX9_canDouble d 0 0 2 (k_if_eq (k_push (.int 0) (k_istore 4 (k_iinc 5 1 (Go l E YX9_isRight (d + 1) 0 0 Q 0 0 50)))) (k_push (.int 1) (k_istore 4 (k_iinc 5 1 (Go l E YX9_isRight (d + 1) 0 0 Q 0 0 50))))))))))))))))))))))
set_option maxRecDepth 100000 in
set_option maxHeartbeats 4000000 in
theorem gX9_isRight_50 {l : Launch} {E : Ev} {d : Nat} {Q : Option Value → Hp → Prop} {ls : Lv} {st : List Value} {h : Hp} (hB : bX9_isRight_50 l E d Q ls st h) : Go l E YX9_isRight (d + 1) 0 0 Q 0 0 50 ls st h :=
  (sd_iload (n := 5) dX9_isRight_50 (sd_iload_n (i := 1) rfl dX9_isRight_52 (sd_icmp_ge (tgt := 102) (by decide) dX9_isRight_53 (sd_iload (n := 4) dX9_isRight_102 (sd_if_eq (tgt := 116) (by decide) dX9_isRight_104 (sd_iconst (v := 0) (by decide) dX9_isRight_116 (sd_iret (ty := .boolean) rfl (by decide) (by decide) dX9_isRight_117)) (sd_iload_n (i := 3) rfl dX9_isRight_107 (sd_iconst (v := 2) (by decide) dX9_isRight_108 (sd_icmp_ge (tgt := 116) (by decide) dX9_isRight_109 (sd_iconst (v := 0) (by decide) dX9_isRight_116 (sd_iret (ty := .boolean) rfl (by decide) (by decide) dX9_isRight_117)) (sd_iconst (v := 1) (by decide) dX9_isRight_112 (sd_goto (tgt := 117) (by decide) dX9_isRight_113 (sd_iret (ty := .boolean) rfl (by decide) (by decide) dX9_isRight_117)))))))) (sd_aload_n (i := 0) rfl dX9_isRight_56 (sd_getR clsX9 (f := 3) (by decide) (fun _ _ _ => rfl) mw_1181 dX9_isRight_57 (sd_sipush (v := 166) (by decide) dX9_isRight_60 (sd_iload (n := 5) dX9_isRight_63 (sd_iadd dX9_isRight_65 (sd_iaload dX9_isRight_66 (sd_iload_n (i := 2) rfl dX9_isRight_67 (sd_icmp_ne (tgt := 96) (by decide) dX9_isRight_68 (sd_iinc (i := 5) (v := 1) (by decide) (by decide) dX9_isRight_96 (sd_goto (tgt := 50) (by decide) dX9_isRight_99 (Sd.go))) (sd_iinc (i := 3) (v := 1) (by decide) (by decide) dX9_isRight_71 (sd_iload (n := 4) dX9_isRight_74 (sd_if_eq (tgt := 93) (by decide) dX9_isRight_76 (sd_iconst (v := 0) (by decide) dX9_isRight_93 (sd_istore (i := 4) (by decide) dX9_isRight_94 (sd_iinc (i := 5) (v := 1) (by decide) (by decide) dX9_isRight_96 (sd_goto (tgt := 50) (by decide) dX9_isRight_99 (Sd.go))))) (sd_aload_n (i := 0) rfl dX9_isRight_79 (sd_iload_n (i := 1) rfl dX9_isRight_80 (sd_iload (n := 5) dX9_isRight_81 (sd_callV (Y' := YX9_canDouble) (mc' := 0) (ms' := 0) (n := 2) clsX9.1 mw_1618 mw_1620 mw_82 mw_108 mw_1621 rfl (okmX9_canDouble) (by decide) (Nat.le_refl _) (by decide) (by decide) dX9_isRight_83 (sd_if_eq (tgt := 93) (by decide) dX9_isRight_86 (sd_iconst (v := 0) (by decide) dX9_isRight_93 (sd_istore (i := 4) (by decide) dX9_isRight_94 (sd_iinc (i := 5) (v := 1) (by decide) (by decide) dX9_isRight_96 (sd_goto (tgt := 50) (by decide) dX9_isRight_99 (Sd.go))))) (sd_iconst (v := 1) (by decide) dX9_isRight_89 (sd_goto (tgt := 94) (by decide) dX9_isRight_90 (sd_istore (i := 4) (by decide) dX9_isRight_94 (sd_iinc (i := 5) (v := 1) (by decide) (by decide) dX9_isRight_96 (sd_goto (tgt := 50) (by decide) dX9_isRight_99 (Sd.go)))))))))))))))))))))))) : Sd l E YX9_isRight (d + 1) 0 0 Q 0 0 50 (bX9_isRight_50 l E d Q)) ls st h hB
theorem eX9_isRight {l : Launch} {E : Ev} {d : Nat} {Q : Option Value → Hp → Prop} {h : Hp} {a0 : Nat} {x1 : Int32} (hk : Go l E YX9_isRight d 0 0 Q 0 0 0 [some (.ref a0), some (.int x1), none, none, none, none] [] h) : GoM l E YX9_isRight d 0 0 [.ref a0, .int x1] h Q := GoM.of (by decide +kernel) rfl (by simp [entA, YX9_isRight]) hk
theorem dX9_judge_0 : decode cX9_judge 0 = .ok (.aload_n 0, 1) := by decide +kernel
theorem dX9_judge_1 : decode cX9_judge 1 = .ok (.iconst 0, 1) := by decide +kernel
theorem dX9_judge_2 : decode cX9_judge 2 = .ok (.putfield 123, 3) := by decide +kernel
theorem dX9_judge_5 : decode cX9_judge 5 = .ok (.iload_n 1, 1) := by decide +kernel
theorem dX9_judge_6 : decode cX9_judge 6 = .ok (.i2l, 1) := by decide +kernel
theorem dX9_judge_7 : decode cX9_judge 7 = .ok (.lconst 0, 1) := by decide +kernel
theorem dX9_judge_8 : decode cX9_judge 8 = .ok (.lconst 1, 1) := by decide +kernel
theorem dX9_judge_9 : decode cX9_judge 9 = .ok (.invokestatic 133, 3) := by decide +kernel
theorem dX9_judge_12 : decode cX9_judge 12 = .ok (.ifCond .ne 5, 3) := by decide +kernel
theorem dX9_judge_15 : decode cX9_judge 15 = .ok (.iconst (-1), 1) := by decide +kernel
theorem dX9_judge_16 : decode cX9_judge 16 = .ok (.ireturn, 1) := by decide +kernel
theorem dX9_judge_17 : decode cX9_judge 17 = .ok (.aload_n 0, 1) := by decide +kernel
theorem dX9_judge_18 : decode cX9_judge 18 = .ok (.invokevirtual 351, 3) := by decide +kernel
theorem dX9_judge_21 : decode cX9_judge 21 = .ok (.aload_n 0, 1) := by decide +kernel
theorem dX9_judge_22 : decode cX9_judge 22 = .ok (.invokevirtual 354, 3) := by decide +kernel
theorem dX9_judge_25 : decode cX9_judge 25 = .ok (.iconst (-1), 1) := by decide +kernel
theorem dX9_judge_26 : decode cX9_judge 26 = .ok (.istore_n 2, 1) := by decide +kernel
theorem dX9_judge_27 : decode cX9_judge 27 = .ok (.iconst 0, 1) := by decide +kernel
theorem dX9_judge_28 : decode cX9_judge 28 = .ok (.istore_n 3, 1) := by decide +kernel
theorem dX9_judge_29 : decode cX9_judge 29 = .ok (.aload_n 0, 1) := by decide +kernel
theorem dX9_judge_30 : decode cX9_judge 30 = .ok (.getfield 13, 3) := by decide +kernel
theorem dX9_judge_33 : decode cX9_judge 33 = .ok (.bipush 9, 2) := by decide +kernel
theorem dX9_judge_35 : decode cX9_judge 35 = .ok (.iaload, 1) := by decide +kernel
theorem dX9_judge_36 : decode cX9_judge 36 = .ok (.iconst 1, 1) := by decide +kernel
theorem dX9_judge_37 : decode cX9_judge 37 = .ok (.isub, 1) := by decide +kernel
theorem dX9_judge_38 : decode cX9_judge 38 = .ok (.istore 4, 2) := by decide +kernel
theorem dX9_judge_40 : decode cX9_judge 40 = .ok (.iload 4, 2) := by decide +kernel
theorem dX9_judge_42 : decode cX9_judge 42 = .ok (.ifCond .lt 50, 3) := by decide +kernel
theorem dX9_judge_45 : decode cX9_judge 45 = .ok (.aload_n 0, 1) := by decide +kernel
theorem dX9_judge_46 : decode cX9_judge 46 = .ok (.iload 4, 2) := by decide +kernel
theorem dX9_judge_48 : decode cX9_judge 48 = .ok (.invokevirtual 408, 3) := by decide +kernel
theorem dX9_judge_51 : decode cX9_judge 51 = .ok (.ifCond .eq 7, 3) := by decide +kernel
theorem dX9_judge_54 : decode cX9_judge 54 = .ok (.iload_n 2, 1) := by decide +kernel
theorem dX9_judge_55 : decode cX9_judge 55 = .ok (.goto 5, 3) := by decide +kernel
theorem dX9_judge_58 : decode cX9_judge 58 = .ok (.iload 4, 2) := by decide +kernel
theorem dX9_judge_60 : decode cX9_judge 60 = .ok (.istore_n 2, 1) := by decide +kernel
theorem dX9_judge_61 : decode cX9_judge 61 = .ok (.iload_n 3, 1) := by decide +kernel
theorem dX9_judge_62 : decode cX9_judge 62 = .ok (.aload_n 0, 1) := by decide +kernel
theorem dX9_judge_63 : decode cX9_judge 63 = .ok (.getfield 92, 3) := by decide +kernel
theorem dX9_judge_66 : decode cX9_judge 66 = .ok (.bipush 8, 2) := by decide +kernel
theorem dX9_judge_68 : decode cX9_judge 68 = .ok (.aload_n 0, 1) := by decide +kernel
theorem dX9_judge_69 : decode cX9_judge 69 = .ok (.getfield 13, 3) := by decide +kernel
theorem dX9_judge_72 : decode cX9_judge 72 = .ok (.sipush 166, 3) := by decide +kernel
theorem dX9_judge_75 : decode cX9_judge 75 = .ok (.iload 4, 2) := by decide +kernel
theorem dX9_judge_77 : decode cX9_judge 77 = .ok (.iadd, 1) := by decide +kernel
theorem dX9_judge_78 : decode cX9_judge 78 = .ok (.iaload, 1) := by decide +kernel
theorem dX9_judge_79 : decode cX9_judge 79 = .ok (.imul, 1) := by decide +kernel
theorem dX9_judge_80 : decode cX9_judge 80 = .ok (.iload 4, 2) := by decide +kernel
theorem dX9_judge_82 : decode cX9_judge 82 = .ok (.iadd, 1) := by decide +kernel
theorem dX9_judge_83 : decode cX9_judge 83 = .ok (.iaload, 1) := by decide +kernel
theorem dX9_judge_84 : decode cX9_judge 84 = .ok (.iadd, 1) := by decide +kernel
theorem dX9_judge_85 : decode cX9_judge 85 = .ok (.istore_n 3, 1) := by decide +kernel
theorem dX9_judge_86 : decode cX9_judge 86 = .ok (.iinc 4 (-1), 3) := by decide +kernel
theorem dX9_judge_89 : decode cX9_judge 89 = .ok (.goto (-49), 3) := by decide +kernel
theorem dX9_judge_92 : decode cX9_judge 92 = .ok (.iload_n 1, 1) := by decide +kernel
theorem dX9_judge_93 : decode cX9_judge 93 = .ok (.ifCond .ne 7, 3) := by decide +kernel
theorem dX9_judge_96 : decode cX9_judge 96 = .ok (.iload_n 2, 1) := by decide +kernel
theorem dX9_judge_97 : decode cX9_judge 97 = .ok (.goto 4, 3) := by decide +kernel
theorem dX9_judge_100 : decode cX9_judge 100 = .ok (.iload_n 3, 1) := by decide +kernel
theorem dX9_judge_101 : decode cX9_judge 101 = .ok (.ireturn, 1) := by decide +kernel
def bX9_judge_0 (l : Launch) (E : Ev) (d : Nat) (Q : Option Value → Hp → Prop) : Kt := k_aload 0 (k_push (.int 0) (k_putI 9 55 0 (k_iload 1 (k_i2l (k_push (.long 0) (k_push (.long 1) (k_callS l E YX9_in d 0 0 3 (k_if_ne (k_aload 0 (k_callV l E 9 55 YX9_asIs d 0 0 0 (k_aload 0 (k_callV l E 9 55 YX9_find d 0 0 0 (k_push (.int (-1)) (k_istore 2 (k_push (.int 0) (k_istore 3 (k_aload 0 (k_getR 9 55 3 (k_push (.int 9) (k_iaload (k_push (.int 1) (k_isub (k_istore 4 (Go l E YX9_judge (d + 1) 0 0 Q 0 0 40)))))))))))))))) (k_push (.int (-1)) (k_iret .int Q))))))))))
set_option maxRecDepth 100000 in
set_option maxHeartbeats 4000000 in
theorem gX9_judge_0 {l : Launch} {E : Ev} {d : Nat} {Q : Option Value → Hp → Prop} {ls : Lv} {st : List Value} {h : Hp} (hB : bX9_judge_0 l E d Q ls st h) : Go l E YX9_judge (d + 1) 0 0 Q 0 0 0 ls st h :=
  (sd_aload_n (i := 0) rfl dX9_judge_0 (sd_iconst (v := 0) (by decide) dX9_judge_1 (sd_putI clsX9 (f := 0) (by decide) (fun _ _ _ => rfl) rfl (Or.inl rfl) mw_1178 dX9_judge_2 (sd_iload_n (i := 1) rfl dX9_judge_5 (sd_i2l dX9_judge_6 (sd_lconst (v := 0) (by decide) dX9_judge_7 (sd_lconst (v := 1) (by decide) dX9_judge_8 (sd_callS (Y' := YX9_in) (mc' := 0) (ms' := 0) (n := 3) mw_1348 mw_1349 mw_108 mw_1350 (okmX9_in) (by decide) (Nat.le_refl _) (by decide) (by decide) dX9_judge_9 (sd_if_ne (tgt := 17) (by decide) dX9_judge_12 (sd_aload_n (i := 0) rfl dX9_judge_17 (sd_callV (Y' := YX9_asIs) (mc' := 0) (ms' := 0) (n := 0) clsX9.1 mw_1559 mw_1561 mw_71 mw_108 mw_1562 rfl (okmX9_asIs) (by decide) (Nat.le_refl _) (by decide) (by decide) dX9_judge_18 (sd_aload_n (i := 0) rfl dX9_judge_21 (sd_callV (Y' := YX9_find) (mc' := 0) (ms' := 0) (n := 0) clsX9.1 mw_1563 mw_1565 mw_72 mw_108 mw_1566 rfl (okmX9_find) (by decide) (Nat.le_refl _) (by decide) (by decide) dX9_judge_22 (sd_iconst (v := (-1)) (by decide) dX9_judge_25 (sd_istore_n (i := 2) rfl (by decide) dX9_judge_26 (sd_iconst (v := 0) (by decide) dX9_judge_27 (sd_istore_n (i := 3) rfl (by decide) dX9_judge_28 (sd_aload_n (i := 0) rfl dX9_judge_29 (sd_getR clsX9 (f := 3) (by decide) (fun _ _ _ => rfl) mw_1181 dX9_judge_30 (sd_bipush (v := 9) (by decide) dX9_judge_33 (sd_iaload dX9_judge_35 (sd_iconst (v := 1) (by decide) dX9_judge_36 (sd_isub dX9_judge_37 (sd_istore (i := 4) (by decide) dX9_judge_38 (Sd.go)))))))))))))))) (sd_iconst (v := (-1)) (by decide) dX9_judge_15 (sd_iret (ty := .int) rfl (by decide) (by decide) dX9_judge_16)))))))))) : Sd l E YX9_judge (d + 1) 0 0 Q 0 0 0 (bX9_judge_0 l E d Q)) ls st h hB
def bX9_judge_40 (l : Launch) (E : Ev) (d : Nat) (Q : Option Value → Hp → Prop) : Kt := k_iload 4 (k_if_lt (k_iload 1 (k_if_ne (k_iload 3 (k_iret .int Q)) (k_iload 2 (k_iret .int Q)))) (k_aload 0 (k_iload 4 (k_callV l E 9 55 YX9_isRight d 0 0 1 (k_if_eq (k_iload 4 (Go l E YX9_judge (d + 1) 0 0 Q 0 0 60)) (k_iload 2 (Go l E YX9_judge (d + 1) 0 0 Q 0 0 60)))))))
set_option maxRecDepth 100000 in
set_option maxHeartbeats 4000000 in
theorem gX9_judge_40 {l : Launch} {E : Ev} {d : Nat} {Q : Option Value → Hp → Prop} {ls : Lv} {st : List Value} {h : Hp} (hB : bX9_judge_40 l E d Q ls st h) : Go l E YX9_judge (d + 1) 0 0 Q 0 0 40 ls st h :=
  (sd_iload (n := 4) dX9_judge_40 (sd_if_lt (tgt := 92) (by decide) dX9_judge_42 (sd_iload_n (i := 1) rfl dX9_judge_92 (sd_if_ne (tgt := 100) (by decide) dX9_judge_93 (sd_iload_n (i := 3) rfl dX9_judge_100 (sd_iret (ty := .int) rfl (by decide) (by decide) dX9_judge_101)) (sd_iload_n (i := 2) rfl dX9_judge_96 (sd_goto (tgt := 101) (by decide) dX9_judge_97 (sd_iret (ty := .int) rfl (by decide) (by decide) dX9_judge_101))))) (sd_aload_n (i := 0) rfl dX9_judge_45 (sd_iload (n := 4) dX9_judge_46 (sd_callV (Y' := YX9_isRight) (mc' := 0) (ms' := 0) (n := 1) clsX9.1 mw_1666 mw_1668 mw_87 mw_108 mw_1669 rfl (okmX9_isRight) (by decide) (Nat.le_refl _) (by decide) (by decide) dX9_judge_48 (sd_if_eq (tgt := 58) (by decide) dX9_judge_51 (sd_iload (n := 4) dX9_judge_58 (Sd.go)) (sd_iload_n (i := 2) rfl dX9_judge_54 (sd_goto (tgt := 60) (by decide) dX9_judge_55 (Sd.go)))))))) : Sd l E YX9_judge (d + 1) 0 0 Q 0 0 40 (bX9_judge_40 l E d Q)) ls st h hB
def bX9_judge_60 (l : Launch) (E : Ev) (d : Nat) (Q : Option Value → Hp → Prop) : Kt := k_istore 2 (k_iload 3 (k_aload 0 (k_getR 9 55 36 (k_push (.int 8) (k_aload 0 (k_getR 9 55 3 (k_push (.int 166) (k_iload 4 (k_iadd (k_iaload (k_imul (k_iload 4 (k_iadd (k_iaload (k_iadd (k_istore 3 (k_iinc 4 (-1) (Go l E YX9_judge (d + 1) 0 0 Q 0 0 40))))))))))))))))))
set_option maxRecDepth 100000 in
set_option maxHeartbeats 4000000 in
theorem gX9_judge_60 {l : Launch} {E : Ev} {d : Nat} {Q : Option Value → Hp → Prop} {ls : Lv} {st : List Value} {h : Hp} (hB : bX9_judge_60 l E d Q ls st h) : Go l E YX9_judge (d + 1) 0 0 Q 0 0 60 ls st h :=
  (sd_istore_n (i := 2) rfl (by decide) dX9_judge_60 (sd_iload_n (i := 3) rfl dX9_judge_61 (sd_aload_n (i := 0) rfl dX9_judge_62 (sd_getR clsX9 (f := 36) (by decide) (fun _ _ _ => rfl) mw_1214 dX9_judge_63 (sd_bipush (v := 8) (by decide) dX9_judge_66 (sd_aload_n (i := 0) rfl dX9_judge_68 (sd_getR clsX9 (f := 3) (by decide) (fun _ _ _ => rfl) mw_1181 dX9_judge_69 (sd_sipush (v := 166) (by decide) dX9_judge_72 (sd_iload (n := 4) dX9_judge_75 (sd_iadd dX9_judge_77 (sd_iaload dX9_judge_78 (sd_imul dX9_judge_79 (sd_iload (n := 4) dX9_judge_80 (sd_iadd dX9_judge_82 (sd_iaload dX9_judge_83 (sd_iadd dX9_judge_84 (sd_istore_n (i := 3) rfl (by decide) dX9_judge_85 (sd_iinc (i := 4) (v := (-1)) (by decide) (by decide) dX9_judge_86 (sd_goto (tgt := 40) (by decide) dX9_judge_89 (Sd.go))))))))))))))))))) : Sd l E YX9_judge (d + 1) 0 0 Q 0 0 60 (bX9_judge_60 l E d Q)) ls st h hB
theorem eX9_judge {l : Launch} {E : Ev} {d : Nat} {Q : Option Value → Hp → Prop} {h : Hp} {a0 : Nat} {x1 : Int32} (hk : Go l E YX9_judge d 0 0 Q 0 0 0 [some (.ref a0), some (.int x1), none, none, none] [] h) : GoM l E YX9_judge d 0 0 [.ref a0, .int x1] h Q := GoM.of (by decide +kernel) rfl (by simp [entA, YX9_judge]) hk
theorem dX9_findPlays_0 : decode cX9_findPlays 0 = .ok (.iconst 0, 1) := by decide +kernel
theorem dX9_findPlays_1 : decode cX9_findPlays 1 = .ok (.istore_n 1, 1) := by decide +kernel
theorem dX9_findPlays_2 : decode cX9_findPlays 2 = .ok (.iload_n 1, 1) := by decide +kernel
theorem dX9_findPlays_3 : decode cX9_findPlays 3 = .ok (.sipush 256, 3) := by decide +kernel
theorem dX9_findPlays_6 : decode cX9_findPlays 6 = .ok (.if_icmp .ge 24, 3) := by decide +kernel
theorem dX9_findPlays_9 : decode cX9_findPlays 9 = .ok (.aload_n 0, 1) := by decide +kernel
theorem dX9_findPlays_10 : decode cX9_findPlays 10 = .ok (.getfield 111, 3) := by decide +kernel
theorem dX9_findPlays_13 : decode cX9_findPlays 13 = .ok (.iload_n 1, 1) := by decide +kernel
theorem dX9_findPlays_14 : decode cX9_findPlays 14 = .ok (.iload_n 1, 1) := by decide +kernel
theorem dX9_findPlays_15 : decode cX9_findPlays 15 = .ok (.ifCond .ne 7, 3) := by decide +kernel
theorem dX9_findPlays_18 : decode cX9_findPlays 18 = .ok (.iconst 1, 1) := by decide +kernel
theorem dX9_findPlays_19 : decode cX9_findPlays 19 = .ok (.goto 4, 3) := by decide +kernel
theorem dX9_findPlays_22 : decode cX9_findPlays 22 = .ok (.iconst 0, 1) := by decide +kernel
theorem dX9_findPlays_23 : decode cX9_findPlays 23 = .ok (.bastore, 1) := by decide +kernel
theorem dX9_findPlays_24 : decode cX9_findPlays 24 = .ok (.iinc 1 1, 3) := by decide +kernel
theorem dX9_findPlays_27 : decode cX9_findPlays 27 = .ok (.goto (-25), 3) := by decide +kernel
theorem dX9_findPlays_30 : decode cX9_findPlays 30 = .ok (.iconst 1, 1) := by decide +kernel
theorem dX9_findPlays_31 : decode cX9_findPlays 31 = .ok (.istore_n 1, 1) := by decide +kernel
theorem dX9_findPlays_32 : decode cX9_findPlays 32 = .ok (.iload_n 1, 1) := by decide +kernel
theorem dX9_findPlays_33 : decode cX9_findPlays 33 = .ok (.iconst 1, 1) := by decide +kernel
theorem dX9_findPlays_34 : decode cX9_findPlays 34 = .ok (.aload_n 0, 1) := by decide +kernel
theorem dX9_findPlays_35 : decode cX9_findPlays 35 = .ok (.getfield 13, 3) := by decide +kernel
theorem dX9_findPlays_38 : decode cX9_findPlays 38 = .ok (.iconst 0, 1) := by decide +kernel
theorem dX9_findPlays_39 : decode cX9_findPlays 39 = .ok (.iaload, 1) := by decide +kernel
theorem dX9_findPlays_40 : decode cX9_findPlays 40 = .ok (.ishl, 1) := by decide +kernel
theorem dX9_findPlays_41 : decode cX9_findPlays 41 = .ok (.if_icmp .ge 126, 3) := by decide +kernel
theorem dX9_findPlays_44 : decode cX9_findPlays 44 = .ok (.iconst 0, 1) := by decide +kernel
theorem dX9_findPlays_45 : decode cX9_findPlays 45 = .ok (.istore_n 2, 1) := by decide +kernel
theorem dX9_findPlays_46 : decode cX9_findPlays 46 = .ok (.iload_n 1, 1) := by decide +kernel
theorem dX9_findPlays_47 : decode cX9_findPlays 47 = .ok (.iload_n 2, 1) := by decide +kernel
theorem dX9_findPlays_48 : decode cX9_findPlays 48 = .ok (.invokestatic 363, 3) := by decide +kernel
theorem dX9_findPlays_51 : decode cX9_findPlays 51 = .ok (.ifCond .ne 9, 3) := by decide +kernel
theorem dX9_findPlays_54 : decode cX9_findPlays 54 = .ok (.iinc 2 1, 3) := by decide +kernel
theorem dX9_findPlays_57 : decode cX9_findPlays 57 = .ok (.goto (-11), 3) := by decide +kernel
theorem dX9_findPlays_60 : decode cX9_findPlays 60 = .ok (.iload_n 1, 1) := by decide +kernel
theorem dX9_findPlays_61 : decode cX9_findPlays 61 = .ok (.iconst 1, 1) := by decide +kernel
theorem dX9_findPlays_62 : decode cX9_findPlays 62 = .ok (.iload_n 2, 1) := by decide +kernel
theorem dX9_findPlays_63 : decode cX9_findPlays 63 = .ok (.ishl, 1) := by decide +kernel
theorem dX9_findPlays_64 : decode cX9_findPlays 64 = .ok (.iconst (-1), 1) := by decide +kernel
theorem dX9_findPlays_65 : decode cX9_findPlays 65 = .ok (.ixor, 1) := by decide +kernel
theorem dX9_findPlays_66 : decode cX9_findPlays 66 = .ok (.iand, 1) := by decide +kernel
theorem dX9_findPlays_67 : decode cX9_findPlays 67 = .ok (.istore_n 3, 1) := by decide +kernel
theorem dX9_findPlays_68 : decode cX9_findPlays 68 = .ok (.iconst 0, 1) := by decide +kernel
theorem dX9_findPlays_69 : decode cX9_findPlays 69 = .ok (.istore 4, 2) := by decide +kernel
theorem dX9_findPlays_71 : decode cX9_findPlays 71 = .ok (.iload 4, 2) := by decide +kernel
theorem dX9_findPlays_73 : decode cX9_findPlays 73 = .ok (.sipush 256, 3) := by decide +kernel
theorem dX9_findPlays_76 : decode cX9_findPlays 76 = .ok (.if_icmp .ge 35, 3) := by decide +kernel
theorem dX9_findPlays_79 : decode cX9_findPlays 79 = .ok (.aload_n 0, 1) := by decide +kernel
theorem dX9_findPlays_80 : decode cX9_findPlays 80 = .ok (.getfield 111, 3) := by decide +kernel
theorem dX9_findPlays_83 : decode cX9_findPlays 83 = .ok (.sipush 256, 3) := by decide +kernel
theorem dX9_findPlays_86 : decode cX9_findPlays 86 = .ok (.iload_n 1, 1) := by decide +kernel
theorem dX9_findPlays_87 : decode cX9_findPlays 87 = .ok (.imul, 1) := by decide +kernel
theorem dX9_findPlays_88 : decode cX9_findPlays 88 = .ok (.iload 4, 2) := by decide +kernel
theorem dX9_findPlays_90 : decode cX9_findPlays 90 = .ok (.iadd, 1) := by decide +kernel
theorem dX9_findPlays_91 : decode cX9_findPlays 91 = .ok (.aload_n 0, 1) := by decide +kernel
theorem dX9_findPlays_92 : decode cX9_findPlays 92 = .ok (.getfield 111, 3) := by decide +kernel
theorem dX9_findPlays_95 : decode cX9_findPlays 95 = .ok (.sipush 256, 3) := by decide +kernel
theorem dX9_findPlays_98 : decode cX9_findPlays 98 = .ok (.iload_n 3, 1) := by decide +kernel
theorem dX9_findPlays_99 : decode cX9_findPlays 99 = .ok (.imul, 1) := by decide +kernel
theorem dX9_findPlays_100 : decode cX9_findPlays 100 = .ok (.iload 4, 2) := by decide +kernel
theorem dX9_findPlays_102 : decode cX9_findPlays 102 = .ok (.iadd, 1) := by decide +kernel
theorem dX9_findPlays_103 : decode cX9_findPlays 103 = .ok (.baload, 1) := by decide +kernel
theorem dX9_findPlays_104 : decode cX9_findPlays 104 = .ok (.bastore, 1) := by decide +kernel
theorem dX9_findPlays_105 : decode cX9_findPlays 105 = .ok (.iinc 4 1, 3) := by decide +kernel
theorem dX9_findPlays_108 : decode cX9_findPlays 108 = .ok (.goto (-37), 3) := by decide +kernel
theorem dX9_findPlays_111 : decode cX9_findPlays 111 = .ok (.iconst 0, 1) := by decide +kernel
theorem dX9_findPlays_112 : decode cX9_findPlays 112 = .ok (.istore 4, 2) := by decide +kernel
theorem dX9_findPlays_114 : decode cX9_findPlays 114 = .ok (.iload 4, 2) := by decide +kernel
theorem dX9_findPlays_116 : decode cX9_findPlays 116 = .ok (.iconst 1, 1) := by decide +kernel
theorem dX9_findPlays_117 : decode cX9_findPlays 117 = .ok (.aload_n 0, 1) := by decide +kernel
theorem dX9_findPlays_118 : decode cX9_findPlays 118 = .ok (.getfield 13, 3) := by decide +kernel
theorem dX9_findPlays_121 : decode cX9_findPlays 121 = .ok (.iconst 1, 1) := by decide +kernel
theorem dX9_findPlays_122 : decode cX9_findPlays 122 = .ok (.iaload, 1) := by decide +kernel
theorem dX9_findPlays_123 : decode cX9_findPlays 123 = .ok (.ishl, 1) := by decide +kernel
theorem dX9_findPlays_124 : decode cX9_findPlays 124 = .ok (.if_icmp .ge 37, 3) := by decide +kernel
theorem dX9_findPlays_127 : decode cX9_findPlays 127 = .ok (.aload_n 0, 1) := by decide +kernel
theorem dX9_findPlays_128 : decode cX9_findPlays 128 = .ok (.getfield 111, 3) := by decide +kernel
theorem dX9_findPlays_131 : decode cX9_findPlays 131 = .ok (.sipush 256, 3) := by decide +kernel
theorem dX9_findPlays_134 : decode cX9_findPlays 134 = .ok (.iload_n 3, 1) := by decide +kernel
theorem dX9_findPlays_135 : decode cX9_findPlays 135 = .ok (.imul, 1) := by decide +kernel
theorem dX9_findPlays_136 : decode cX9_findPlays 136 = .ok (.iload 4, 2) := by decide +kernel
theorem dX9_findPlays_138 : decode cX9_findPlays 138 = .ok (.iadd, 1) := by decide +kernel
theorem dX9_findPlays_139 : decode cX9_findPlays 139 = .ok (.baload, 1) := by decide +kernel
theorem dX9_findPlays_140 : decode cX9_findPlays 140 = .ok (.ifCond .eq 15, 3) := by decide +kernel
theorem dX9_findPlays_143 : decode cX9_findPlays 143 = .ok (.aload_n 0, 1) := by decide +kernel
theorem dX9_findPlays_144 : decode cX9_findPlays 144 = .ok (.sipush 256, 3) := by decide +kernel
theorem dX9_findPlays_147 : decode cX9_findPlays 147 = .ok (.iload_n 1, 1) := by decide +kernel
theorem dX9_findPlays_148 : decode cX9_findPlays 148 = .ok (.imul, 1) := by decide +kernel
theorem dX9_findPlays_149 : decode cX9_findPlays 149 = .ok (.iload 4, 2) := by decide +kernel
theorem dX9_findPlays_151 : decode cX9_findPlays 151 = .ok (.iload_n 2, 1) := by decide +kernel
theorem dX9_findPlays_152 : decode cX9_findPlays 152 = .ok (.invokevirtual 411, 3) := by decide +kernel
theorem dX9_findPlays_155 : decode cX9_findPlays 155 = .ok (.iinc 4 1, 3) := by decide +kernel
theorem dX9_findPlays_158 : decode cX9_findPlays 158 = .ok (.goto (-44), 3) := by decide +kernel
theorem dX9_findPlays_161 : decode cX9_findPlays 161 = .ok (.iinc 1 1, 3) := by decide +kernel
theorem dX9_findPlays_164 : decode cX9_findPlays 164 = .ok (.goto (-132), 3) := by decide +kernel
theorem dX9_findPlays_167 : decode cX9_findPlays 167 = .ok (.return_, 1) := by decide +kernel
def bX9_findPlays_0 (l : Launch) (E : Ev) (d : Nat) (Q : Option Value → Hp → Prop) : Kt := k_push (.int 0) (k_istore 1 (Go l E YX9_findPlays (d + 1) 0 0 Q 0 0 2))
set_option maxRecDepth 100000 in
set_option maxHeartbeats 4000000 in
theorem gX9_findPlays_0 {l : Launch} {E : Ev} {d : Nat} {Q : Option Value → Hp → Prop} {ls : Lv} {st : List Value} {h : Hp} (hB : bX9_findPlays_0 l E d Q ls st h) : Go l E YX9_findPlays (d + 1) 0 0 Q 0 0 0 ls st h :=
  (sd_iconst (v := 0) (by decide) dX9_findPlays_0 (sd_istore_n (i := 1) rfl (by decide) dX9_findPlays_1 (Sd.go)) : Sd l E YX9_findPlays (d + 1) 0 0 Q 0 0 0 (bX9_findPlays_0 l E d Q)) ls st h hB
def bX9_findPlays_2 (l : Launch) (E : Ev) (d : Nat) (Q : Option Value → Hp → Prop) : Kt := k_iload 1 (k_push (.int 256) (k_icmp_ge (k_push (.int 1) (k_istore 1 (Go l E YX9_findPlays (d + 1) 0 0 Q 0 0 32))) (k_aload 0 (k_getR 9 55 45 (k_iload 1 (k_iload 1 (k_if_ne (k_push (.int 0) (k_zastore (k_iinc 1 1 (Go l E YX9_findPlays (d + 1) 0 0 Q 0 0 2)))) (k_push (.int 1) (k_zastore (k_iinc 1 1 (Go l E YX9_findPlays (d + 1) 0 0 Q 0 0 2)))))))))))
set_option maxRecDepth 100000 in
set_option maxHeartbeats 4000000 in
theorem gX9_findPlays_2 {l : Launch} {E : Ev} {d : Nat} {Q : Option Value → Hp → Prop} {ls : Lv} {st : List Value} {h : Hp} (hB : bX9_findPlays_2 l E d Q ls st h) : Go l E YX9_findPlays (d + 1) 0 0 Q 0 0 2 ls st h :=
  (sd_iload_n (i := 1) rfl dX9_findPlays_2 (sd_sipush (v := 256) (by decide) dX9_findPlays_3 (sd_icmp_ge (tgt := 30) (by decide) dX9_findPlays_6 (sd_iconst (v := 1) (by decide) dX9_findPlays_30 (sd_istore_n (i := 1) rfl (by decide) dX9_findPlays_31 (Sd.go))) (sd_aload_n (i := 0) rfl dX9_findPlays_9 (sd_getR clsX9 (f := 45) (by decide) (fun _ _ _ => rfl) mw_1223 dX9_findPlays_10 (sd_iload_n (i := 1) rfl dX9_findPlays_13 (sd_iload_n (i := 1) rfl dX9_findPlays_14 (sd_if_ne (tgt := 22) (by decide) dX9_findPlays_15 (sd_iconst (v := 0) (by decide) dX9_findPlays_22 (sd_zastore dX9_findPlays_23 (sd_iinc (i := 1) (v := 1) (by decide) (by decide) dX9_findPlays_24 (sd_goto (tgt := 2) (by decide) dX9_findPlays_27 (Sd.go))))) (sd_iconst (v := 1) (by decide) dX9_findPlays_18 (sd_goto (tgt := 23) (by decide) dX9_findPlays_19 (sd_zastore dX9_findPlays_23 (sd_iinc (i := 1) (v := 1) (by decide) (by decide) dX9_findPlays_24 (sd_goto (tgt := 2) (by decide) dX9_findPlays_27 (Sd.go))))))))))))) : Sd l E YX9_findPlays (d + 1) 0 0 Q 0 0 2 (bX9_findPlays_2 l E d Q)) ls st h hB
def bX9_findPlays_32 (l : Launch) (E : Ev) (d : Nat) (Q : Option Value → Hp → Prop) : Kt := k_iload 1 (k_push (.int 1) (k_aload 0 (k_getR 9 55 3 (k_push (.int 0) (k_iaload (k_ishl (k_icmp_ge (k_vret Q) (k_push (.int 0) (k_istore 2 (Go l E YX9_findPlays (d + 1) 0 0 Q 0 0 46))))))))))
set_option maxRecDepth 100000 in
set_option maxHeartbeats 4000000 in
theorem gX9_findPlays_32 {l : Launch} {E : Ev} {d : Nat} {Q : Option Value → Hp → Prop} {ls : Lv} {st : List Value} {h : Hp} (hB : bX9_findPlays_32 l E d Q ls st h) : Go l E YX9_findPlays (d + 1) 0 0 Q 0 0 32 ls st h :=
  (sd_iload_n (i := 1) rfl dX9_findPlays_32 (sd_iconst (v := 1) (by decide) dX9_findPlays_33 (sd_aload_n (i := 0) rfl dX9_findPlays_34 (sd_getR clsX9 (f := 3) (by decide) (fun _ _ _ => rfl) mw_1181 dX9_findPlays_35 (sd_iconst (v := 0) (by decide) dX9_findPlays_38 (sd_iaload dX9_findPlays_39 (sd_ishl dX9_findPlays_40 (sd_icmp_ge (tgt := 167) (by decide) dX9_findPlays_41 (sd_vret rfl (by decide) (by decide) dX9_findPlays_167) (sd_iconst (v := 0) (by decide) dX9_findPlays_44 (sd_istore_n (i := 2) rfl (by decide) dX9_findPlays_45 (Sd.go)))))))))) : Sd l E YX9_findPlays (d + 1) 0 0 Q 0 0 32 (bX9_findPlays_32 l E d Q)) ls st h hB
def bX9_findPlays_46 (l : Launch) (E : Ev) (d : Nat) (Q : Option Value → Hp → Prop) : Kt := k_iload 1 (k_iload 2 (k_callS l E YX9_is d 0 0 2 (k_if_ne (k_iload 1 (k_push (.int 1) (k_iload 2 (k_ishl (k_push (.int (-1)) (k_ixor (k_iand (k_istore 3 (k_push (.int 0) (k_istore 4 (Go l E YX9_findPlays (d + 1) 0 0 Q 0 0 71))))))))))) (k_iinc 2 1 (Go l E YX9_findPlays (d + 1) 0 0 Q 0 0 46)))))
set_option maxRecDepth 100000 in
set_option maxHeartbeats 4000000 in
theorem gX9_findPlays_46 {l : Launch} {E : Ev} {d : Nat} {Q : Option Value → Hp → Prop} {ls : Lv} {st : List Value} {h : Hp} (hB : bX9_findPlays_46 l E d Q ls st h) : Go l E YX9_findPlays (d + 1) 0 0 Q 0 0 46 ls st h :=
  (sd_iload_n (i := 1) rfl dX9_findPlays_46 (sd_iload_n (i := 2) rfl dX9_findPlays_47 (sd_callS (Y' := YX9_is) (mc' := 0) (ms' := 0) (n := 2) mw_1603 mw_1604 mw_108 mw_1605 (okmX9_is) (by decide) (Nat.le_refl _) (by decide) (by decide) dX9_findPlays_48 (sd_if_ne (tgt := 60) (by decide) dX9_findPlays_51 (sd_iload_n (i := 1) rfl dX9_findPlays_60 (sd_iconst (v := 1) (by decide) dX9_findPlays_61 (sd_iload_n (i := 2) rfl dX9_findPlays_62 (sd_ishl dX9_findPlays_63 (sd_iconst (v := (-1)) (by decide) dX9_findPlays_64 (sd_ixor dX9_findPlays_65 (sd_iand dX9_findPlays_66 (sd_istore_n (i := 3) rfl (by decide) dX9_findPlays_67 (sd_iconst (v := 0) (by decide) dX9_findPlays_68 (sd_istore (i := 4) (by decide) dX9_findPlays_69 (Sd.go))))))))))) (sd_iinc (i := 2) (v := 1) (by decide) (by decide) dX9_findPlays_54 (sd_goto (tgt := 46) (by decide) dX9_findPlays_57 (Sd.go)))))) : Sd l E YX9_findPlays (d + 1) 0 0 Q 0 0 46 (bX9_findPlays_46 l E d Q)) ls st h hB
def bX9_findPlays_71 (l : Launch) (E : Ev) (d : Nat) (Q : Option Value → Hp → Prop) : Kt := k_iload 4 (k_push (.int 256) (k_icmp_ge (k_push (.int 0) (k_istore 4 (Go l E YX9_findPlays (d + 1) 0 0 Q 0 0 114))) (k_aload 0 (k_getR 9 55 45 (k_push (.int 256) (k_iload 1 (k_imul (k_iload 4 (k_iadd (k_aload 0 (k_getR 9 55 45 (k_push (.int 256) (k_iload 3 (k_imul (k_iload 4 (k_iadd (k_zaload (k_zastore (k_iinc 4 1 (Go l E YX9_findPlays (d + 1) 0 0 Q 0 0 71))))))))))))))))))))
set_option maxRecDepth 100000 in
set_option maxHeartbeats 4000000 in
theorem gX9_findPlays_71 {l : Launch} {E : Ev} {d : Nat} {Q : Option Value → Hp → Prop} {ls : Lv} {st : List Value} {h : Hp} (hB : bX9_findPlays_71 l E d Q ls st h) : Go l E YX9_findPlays (d + 1) 0 0 Q 0 0 71 ls st h :=
  (sd_iload (n := 4) dX9_findPlays_71 (sd_sipush (v := 256) (by decide) dX9_findPlays_73 (sd_icmp_ge (tgt := 111) (by decide) dX9_findPlays_76 (sd_iconst (v := 0) (by decide) dX9_findPlays_111 (sd_istore (i := 4) (by decide) dX9_findPlays_112 (Sd.go))) (sd_aload_n (i := 0) rfl dX9_findPlays_79 (sd_getR clsX9 (f := 45) (by decide) (fun _ _ _ => rfl) mw_1223 dX9_findPlays_80 (sd_sipush (v := 256) (by decide) dX9_findPlays_83 (sd_iload_n (i := 1) rfl dX9_findPlays_86 (sd_imul dX9_findPlays_87 (sd_iload (n := 4) dX9_findPlays_88 (sd_iadd dX9_findPlays_90 (sd_aload_n (i := 0) rfl dX9_findPlays_91 (sd_getR clsX9 (f := 45) (by decide) (fun _ _ _ => rfl) mw_1223 dX9_findPlays_92 (sd_sipush (v := 256) (by decide) dX9_findPlays_95 (sd_iload_n (i := 3) rfl dX9_findPlays_98 (sd_imul dX9_findPlays_99 (sd_iload (n := 4) dX9_findPlays_100 (sd_iadd dX9_findPlays_102 (sd_zaload dX9_findPlays_103 (sd_zastore dX9_findPlays_104 (sd_iinc (i := 4) (v := 1) (by decide) (by decide) dX9_findPlays_105 (sd_goto (tgt := 71) (by decide) dX9_findPlays_108 (Sd.go))))))))))))))))))))) : Sd l E YX9_findPlays (d + 1) 0 0 Q 0 0 71 (bX9_findPlays_71 l E d Q)) ls st h hB
def bX9_findPlays_114 (l : Launch) (E : Ev) (d : Nat) (Q : Option Value → Hp → Prop) : Kt := k_iload 4 (k_push (.int 1) (k_aload 0 (k_getR 9 55 3 (k_push (.int 1) (k_iaload (k_ishl (k_icmp_ge (k_iinc 1 1 (Go l E YX9_findPlays (d + 1) 0 0 Q 0 0 32)) (k_aload 0 (k_getR 9 55 45 (k_push (.int 256) (k_iload 3 (k_imul (k_iload 4 (k_iadd (k_zaload (k_if_eq (k_iinc 4 1 (Go l E YX9_findPlays (d + 1) 0 0 Q 0 0 114)) (k_aload 0 (k_push (.int 256) (k_iload 1 (k_imul (k_iload 4 (k_iload 2 (k_callV l E 9 55 YX9_addActor d 0 0 3 (k_iinc 4 1 (Go l E YX9_findPlays (d + 1) 0 0 Q 0 0 114)))))))))))))))))))))))))
set_option maxRecDepth 100000 in
set_option maxHeartbeats 4000000 in
theorem gX9_findPlays_114 {l : Launch} {E : Ev} {d : Nat} {Q : Option Value → Hp → Prop} {ls : Lv} {st : List Value} {h : Hp} (hB : bX9_findPlays_114 l E d Q ls st h) : Go l E YX9_findPlays (d + 1) 0 0 Q 0 0 114 ls st h :=
  (sd_iload (n := 4) dX9_findPlays_114 (sd_iconst (v := 1) (by decide) dX9_findPlays_116 (sd_aload_n (i := 0) rfl dX9_findPlays_117 (sd_getR clsX9 (f := 3) (by decide) (fun _ _ _ => rfl) mw_1181 dX9_findPlays_118 (sd_iconst (v := 1) (by decide) dX9_findPlays_121 (sd_iaload dX9_findPlays_122 (sd_ishl dX9_findPlays_123 (sd_icmp_ge (tgt := 161) (by decide) dX9_findPlays_124 (sd_iinc (i := 1) (v := 1) (by decide) (by decide) dX9_findPlays_161 (sd_goto (tgt := 32) (by decide) dX9_findPlays_164 (Sd.go))) (sd_aload_n (i := 0) rfl dX9_findPlays_127 (sd_getR clsX9 (f := 45) (by decide) (fun _ _ _ => rfl) mw_1223 dX9_findPlays_128 (sd_sipush (v := 256) (by decide) dX9_findPlays_131 (sd_iload_n (i := 3) rfl dX9_findPlays_134 (sd_imul dX9_findPlays_135 (sd_iload (n := 4) dX9_findPlays_136 (sd_iadd dX9_findPlays_138 (sd_zaload dX9_findPlays_139 (sd_if_eq (tgt := 155) (by decide) dX9_findPlays_140 (sd_iinc (i := 4) (v := 1) (by decide) (by decide) dX9_findPlays_155 (sd_goto (tgt := 114) (by decide) dX9_findPlays_158 (Sd.go))) (sd_aload_n (i := 0) rfl dX9_findPlays_143 (sd_sipush (v := 256) (by decide) dX9_findPlays_144 (sd_iload_n (i := 1) rfl dX9_findPlays_147 (sd_imul dX9_findPlays_148 (sd_iload (n := 4) dX9_findPlays_149 (sd_iload_n (i := 2) rfl dX9_findPlays_151 (sd_callV (Y' := YX9_addActor) (mc' := 0) (ms' := 0) (n := 3) clsX9.1 mw_1682 mw_1684 mw_90 mw_108 mw_1685 rfl (okmX9_addActor) (by decide) (Nat.le_refl _) (by decide) (by decide) dX9_findPlays_152 (sd_iinc (i := 4) (v := 1) (by decide) (by decide) dX9_findPlays_155 (sd_goto (tgt := 114) (by decide) dX9_findPlays_158 (Sd.go)))))))))))))))))))))))))) : Sd l E YX9_findPlays (d + 1) 0 0 Q 0 0 114 (bX9_findPlays_114 l E d Q)) ls st h hB
theorem eX9_findPlays {l : Launch} {E : Ev} {d : Nat} {Q : Option Value → Hp → Prop} {h : Hp} {a0 : Nat} (hk : Go l E YX9_findPlays d 0 0 Q 0 0 0 [some (.ref a0), none, none, none, none] [] h) : GoM l E YX9_findPlays d 0 0 [.ref a0] h Q := GoM.of (by decide +kernel) rfl (by simp [entA, YX9_findPlays]) hk
theorem dX9_addActor_0 : decode cX9_addActor 0 = .ok (.iconst 0, 1) := by decide +kernel
theorem dX9_addActor_1 : decode cX9_addActor 1 = .ok (.istore 4, 2) := by decide +kernel
theorem dX9_addActor_3 : decode cX9_addActor 3 = .ok (.iload 4, 2) := by decide +kernel
theorem dX9_addActor_5 : decode cX9_addActor 5 = .ok (.aload_n 0, 1) := by decide +kernel
theorem dX9_addActor_6 : decode cX9_addActor 6 = .ok (.getfield 13, 3) := by decide +kernel
theorem dX9_addActor_9 : decode cX9_addActor 9 = .ok (.iconst 1, 1) := by decide +kernel
theorem dX9_addActor_10 : decode cX9_addActor 10 = .ok (.iaload, 1) := by decide +kernel
theorem dX9_addActor_11 : decode cX9_addActor 11 = .ok (.if_icmp .ge 117, 3) := by decide +kernel
theorem dX9_addActor_14 : decode cX9_addActor 14 = .ok (.iload_n 2, 1) := by decide +kernel
theorem dX9_addActor_15 : decode cX9_addActor 15 = .ok (.iload 4, 2) := by decide +kernel
theorem dX9_addActor_17 : decode cX9_addActor 17 = .ok (.invokestatic 363, 3) := by decide +kernel
theorem dX9_addActor_20 : decode cX9_addActor 20 = .ok (.ifCond .ne 102, 3) := by decide +kernel
theorem dX9_addActor_23 : decode cX9_addActor 23 = .ok (.aload_n 0, 1) := by decide +kernel
theorem dX9_addActor_24 : decode cX9_addActor 24 = .ok (.getfield 89, 3) := by decide +kernel
theorem dX9_addActor_27 : decode cX9_addActor 27 = .ok (.bipush 8, 2) := by decide +kernel
theorem dX9_addActor_29 : decode cX9_addActor 29 = .ok (.iload_n 3, 1) := by decide +kernel
theorem dX9_addActor_30 : decode cX9_addActor 30 = .ok (.imul, 1) := by decide +kernel
theorem dX9_addActor_31 : decode cX9_addActor 31 = .ok (.iload 4, 2) := by decide +kernel
theorem dX9_addActor_33 : decode cX9_addActor 33 = .ok (.iadd, 1) := by decide +kernel
theorem dX9_addActor_34 : decode cX9_addActor 34 = .ok (.baload, 1) := by decide +kernel
theorem dX9_addActor_35 : decode cX9_addActor 35 = .ok (.ifCond .eq 87, 3) := by decide +kernel
theorem dX9_addActor_38 : decode cX9_addActor 38 = .ok (.aload_n 0, 1) := by decide +kernel
theorem dX9_addActor_39 : decode cX9_addActor 39 = .ok (.getfield 111, 3) := by decide +kernel
theorem dX9_addActor_42 : decode cX9_addActor 42 = .ok (.iload_n 1, 1) := by decide +kernel
theorem dX9_addActor_43 : decode cX9_addActor 43 = .ok (.iload_n 2, 1) := by decide +kernel
theorem dX9_addActor_44 : decode cX9_addActor 44 = .ok (.iconst 1, 1) := by decide +kernel
theorem dX9_addActor_45 : decode cX9_addActor 45 = .ok (.iload 4, 2) := by decide +kernel
theorem dX9_addActor_47 : decode cX9_addActor 47 = .ok (.ishl, 1) := by decide +kernel
theorem dX9_addActor_48 : decode cX9_addActor 48 = .ok (.ior, 1) := by decide +kernel
theorem dX9_addActor_49 : decode cX9_addActor 49 = .ok (.iadd, 1) := by decide +kernel
theorem dX9_addActor_50 : decode cX9_addActor 50 = .ok (.iconst 1, 1) := by decide +kernel
theorem dX9_addActor_51 : decode cX9_addActor 51 = .ok (.bastore, 1) := by decide +kernel
theorem dX9_addActor_52 : decode cX9_addActor 52 = .ok (.iconst 0, 1) := by decide +kernel
theorem dX9_addActor_53 : decode cX9_addActor 53 = .ok (.istore 5, 2) := by decide +kernel
theorem dX9_addActor_55 : decode cX9_addActor 55 = .ok (.iload 5, 2) := by decide +kernel
theorem dX9_addActor_57 : decode cX9_addActor 57 = .ok (.iload 4, 2) := by decide +kernel
theorem dX9_addActor_59 : decode cX9_addActor 59 = .ok (.if_icmp .ge 63, 3) := by decide +kernel
theorem dX9_addActor_62 : decode cX9_addActor 62 = .ok (.iload_n 2, 1) := by decide +kernel
theorem dX9_addActor_63 : decode cX9_addActor 63 = .ok (.iload 5, 2) := by decide +kernel
theorem dX9_addActor_65 : decode cX9_addActor 65 = .ok (.invokestatic 363, 3) := by decide +kernel
theorem dX9_addActor_68 : decode cX9_addActor 68 = .ok (.ifCond .ne 48, 3) := by decide +kernel
theorem dX9_addActor_71 : decode cX9_addActor 71 = .ok (.aload_n 0, 1) := by decide +kernel
theorem dX9_addActor_72 : decode cX9_addActor 72 = .ok (.getfield 89, 3) := by decide +kernel
theorem dX9_addActor_75 : decode cX9_addActor 75 = .ok (.bipush 8, 2) := by decide +kernel
theorem dX9_addActor_77 : decode cX9_addActor 77 = .ok (.iload_n 3, 1) := by decide +kernel
theorem dX9_addActor_78 : decode cX9_addActor 78 = .ok (.imul, 1) := by decide +kernel
theorem dX9_addActor_79 : decode cX9_addActor 79 = .ok (.iload 5, 2) := by decide +kernel
theorem dX9_addActor_81 : decode cX9_addActor 81 = .ok (.iadd, 1) := by decide +kernel
theorem dX9_addActor_82 : decode cX9_addActor 82 = .ok (.baload, 1) := by decide +kernel
theorem dX9_addActor_83 : decode cX9_addActor 83 = .ok (.ifCond .eq 33, 3) := by decide +kernel
theorem dX9_addActor_86 : decode cX9_addActor 86 = .ok (.aload_n 0, 1) := by decide +kernel
theorem dX9_addActor_87 : decode cX9_addActor 87 = .ok (.iload 4, 2) := by decide +kernel
theorem dX9_addActor_89 : decode cX9_addActor 89 = .ok (.iload 5, 2) := by decide +kernel
theorem dX9_addActor_91 : decode cX9_addActor 91 = .ok (.invokevirtual 373, 3) := by decide +kernel
theorem dX9_addActor_94 : decode cX9_addActor 94 = .ok (.ifCond .eq 22, 3) := by decide +kernel
theorem dX9_addActor_97 : decode cX9_addActor 97 = .ok (.aload_n 0, 1) := by decide +kernel
theorem dX9_addActor_98 : decode cX9_addActor 98 = .ok (.getfield 111, 3) := by decide +kernel
theorem dX9_addActor_101 : decode cX9_addActor 101 = .ok (.iload_n 1, 1) := by decide +kernel
theorem dX9_addActor_102 : decode cX9_addActor 102 = .ok (.iload_n 2, 1) := by decide +kernel
theorem dX9_addActor_103 : decode cX9_addActor 103 = .ok (.iconst 1, 1) := by decide +kernel
theorem dX9_addActor_104 : decode cX9_addActor 104 = .ok (.iload 4, 2) := by decide +kernel
theorem dX9_addActor_106 : decode cX9_addActor 106 = .ok (.ishl, 1) := by decide +kernel
theorem dX9_addActor_107 : decode cX9_addActor 107 = .ok (.ior, 1) := by decide +kernel
theorem dX9_addActor_108 : decode cX9_addActor 108 = .ok (.iconst 1, 1) := by decide +kernel
theorem dX9_addActor_109 : decode cX9_addActor 109 = .ok (.iload 5, 2) := by decide +kernel
theorem dX9_addActor_111 : decode cX9_addActor 111 = .ok (.ishl, 1) := by decide +kernel
theorem dX9_addActor_112 : decode cX9_addActor 112 = .ok (.ior, 1) := by decide +kernel
theorem dX9_addActor_113 : decode cX9_addActor 113 = .ok (.iadd, 1) := by decide +kernel
theorem dX9_addActor_114 : decode cX9_addActor 114 = .ok (.iconst 1, 1) := by decide +kernel
theorem dX9_addActor_115 : decode cX9_addActor 115 = .ok (.bastore, 1) := by decide +kernel
theorem dX9_addActor_116 : decode cX9_addActor 116 = .ok (.iinc 5 1, 3) := by decide +kernel
theorem dX9_addActor_119 : decode cX9_addActor 119 = .ok (.goto (-64), 3) := by decide +kernel
theorem dX9_addActor_122 : decode cX9_addActor 122 = .ok (.iinc 4 1, 3) := by decide +kernel
theorem dX9_addActor_125 : decode cX9_addActor 125 = .ok (.goto (-122), 3) := by decide +kernel
theorem dX9_addActor_128 : decode cX9_addActor 128 = .ok (.return_, 1) := by decide +kernel
def bX9_addActor_0 (l : Launch) (E : Ev) (d : Nat) (Q : Option Value → Hp → Prop) : Kt := k_push (.int 0) (k_istore 4 (Go l E YX9_addActor (d + 1) 0 0 Q 0 0 3))
set_option maxRecDepth 100000 in
set_option maxHeartbeats 4000000 in
theorem gX9_addActor_0 {l : Launch} {E : Ev} {d : Nat} {Q : Option Value → Hp → Prop} {ls : Lv} {st : List Value} {h : Hp} (hB : bX9_addActor_0 l E d Q ls st h) : Go l E YX9_addActor (d + 1) 0 0 Q 0 0 0 ls st h :=
  (sd_iconst (v := 0) (by decide) dX9_addActor_0 (sd_istore (i := 4) (by decide) dX9_addActor_1 (Sd.go)) : Sd l E YX9_addActor (d + 1) 0 0 Q 0 0 0 (bX9_addActor_0 l E d Q)) ls st h hB
def bX9_addActor_3 (l : Launch) (E : Ev) (d : Nat) (Q : Option Value → Hp → Prop) : Kt := k_iload 4 (k_aload 0 (k_getR 9 55 3 (k_push (.int 1) (k_iaload (k_icmp_ge (k_vret Q) (k_iload 2 (k_iload 4 (k_callS l E YX9_is d 0 0 2 (k_if_ne (k_iinc 4 1 (Go l E YX9_addActor (d + 1) 0 0 Q 0 0 3)) (k_aload 0 (k_getR 9 55 35 (k_push (.int 8) (k_iload 3 (k_imul (k_iload 4 (k_iadd (k_zaload (k_if_eq (k_iinc 4 1 (Go l E YX9_addActor (d + 1) 0 0 Q 0 0 3)) (k_aload 0 (k_getR 9 55 45 (k_iload 1 (k_iload 2 (k_push (.int 1) (k_iload 4 (k_ishl (k_ior (k_iadd (k_push (.int 1) (k_zastore (k_push (.int 0) (k_istore 5 (Go l E YX9_addActor (d + 1) 0 0 Q 0 0 55))))))))))))))))))))))))))))))))
set_option maxRecDepth 100000 in
set_option maxHeartbeats 4000000 in
theorem gX9_addActor_3 {l : Launch} {E : Ev} {d : Nat} {Q : Option Value → Hp → Prop} {ls : Lv} {st : List Value} {h : Hp} (hB : bX9_addActor_3 l E d Q ls st h) : Go l E YX9_addActor (d + 1) 0 0 Q 0 0 3 ls st h :=
  (sd_iload (n := 4) dX9_addActor_3 (sd_aload_n (i := 0) rfl dX9_addActor_5 (sd_getR clsX9 (f := 3) (by decide) (fun _ _ _ => rfl) mw_1181 dX9_addActor_6 (sd_iconst (v := 1) (by decide) dX9_addActor_9 (sd_iaload dX9_addActor_10 (sd_icmp_ge (tgt := 128) (by decide) dX9_addActor_11 (sd_vret rfl (by decide) (by decide) dX9_addActor_128) (sd_iload_n (i := 2) rfl dX9_addActor_14 (sd_iload (n := 4) dX9_addActor_15 (sd_callS (Y' := YX9_is) (mc' := 0) (ms' := 0) (n := 2) mw_1603 mw_1604 mw_108 mw_1605 (okmX9_is) (by decide) (Nat.le_refl _) (by decide) (by decide) dX9_addActor_17 (sd_if_ne (tgt := 122) (by decide) dX9_addActor_20 (sd_iinc (i := 4) (v := 1) (by decide) (by decide) dX9_addActor_122 (sd_goto (tgt := 3) (by decide) dX9_addActor_125 (Sd.go))) (sd_aload_n (i := 0) rfl dX9_addActor_23 (sd_getR clsX9 (f := 35) (by decide) (fun _ _ _ => rfl) mw_1213 dX9_addActor_24 (sd_bipush (v := 8) (by decide) dX9_addActor_27 (sd_iload_n (i := 3) rfl dX9_addActor_29 (sd_imul dX9_addActor_30 (sd_iload (n := 4) dX9_addActor_31 (sd_iadd dX9_addActor_33 (sd_zaload dX9_addActor_34 (sd_if_eq (tgt := 122) (by decide) dX9_addActor_35 (sd_iinc (i := 4) (v := 1) (by decide) (by decide) dX9_addActor_122 (sd_goto (tgt := 3) (by decide) dX9_addActor_125 (Sd.go))) (sd_aload_n (i := 0) rfl dX9_addActor_38 (sd_getR clsX9 (f := 45) (by decide) (fun _ _ _ => rfl) mw_1223 dX9_addActor_39 (sd_iload_n (i := 1) rfl dX9_addActor_42 (sd_iload_n (i := 2) rfl dX9_addActor_43 (sd_iconst (v := 1) (by decide) dX9_addActor_44 (sd_iload (n := 4) dX9_addActor_45 (sd_ishl dX9_addActor_47 (sd_ior dX9_addActor_48 (sd_iadd dX9_addActor_49 (sd_iconst (v := 1) (by decide) dX9_addActor_50 (sd_zastore dX9_addActor_51 (sd_iconst (v := 0) (by decide) dX9_addActor_52 (sd_istore (i := 5) (by decide) dX9_addActor_53 (Sd.go)))))))))))))))))))))))))))))))) : Sd l E YX9_addActor (d + 1) 0 0 Q 0 0 3 (bX9_addActor_3 l E d Q)) ls st h hB
def bX9_addActor_55 (l : Launch) (E : Ev) (d : Nat) (Q : Option Value → Hp → Prop) : Kt := k_iload 5 (k_iload 4 (k_icmp_ge (k_iinc 4 1 (Go l E YX9_addActor (d + 1) 0 0 Q 0 0 3)) (k_iload 2 (k_iload 5 (k_callS l E YX9_is d 0 0 2 (k_if_ne (k_iinc 5 1 (Go l E YX9_addActor (d + 1) 0 0 Q 0 0 55)) (k_aload 0 (k_getR 9 55 35 (k_push (.int 8) (k_iload 3 (k_imul (k_iload 5 (k_iadd (k_zaload (k_if_eq (k_iinc 5 1 (Go l E YX9_addActor (d + 1) 0 0 Q 0 0 55)) (k_aload 0 (k_iload 4 (k_iload 5 (k_callV l E 9 55 YX9_canDouble d 0 0 2 (k_if_eq (k_iinc 5 1 (Go l E YX9_addActor (d + 1) 0 0 Q 0 0 55)) (k_aload 0 (k_getR 9 55 45 (k_iload 1 (k_iload 2 (k_push (.int 1) (k_iload 4 (k_ishl (k_ior (k_push (.int 1) (k_iload 5 (k_ishl (k_ior (k_iadd (k_push (.int 1) (k_zastore (k_iinc 5 1 (Go l E YX9_addActor (d + 1) 0 0 Q 0 0 55)))))))))))))))))))))))))))))))))))))
set_option maxRecDepth 100000 in
set_option maxHeartbeats 4000000 in
theorem gX9_addActor_55 {l : Launch} {E : Ev} {d : Nat} {Q : Option Value → Hp → Prop} {ls : Lv} {st : List Value} {h : Hp} (hB : bX9_addActor_55 l E d Q ls st h) : Go l E YX9_addActor (d + 1) 0 0 Q 0 0 55 ls st h :=
  (sd_iload (n := 5) dX9_addActor_55 (sd_iload (n := 4) dX9_addActor_57 (sd_icmp_ge (tgt := 122) (by decide) dX9_addActor_59 (sd_iinc (i := 4) (v := 1) (by decide) (by decide) dX9_addActor_122 (sd_goto (tgt := 3) (by decide) dX9_addActor_125 (Sd.go))) (sd_iload_n (i := 2) rfl dX9_addActor_62 (sd_iload (n := 5) dX9_addActor_63 (sd_callS (Y' := YX9_is) (mc' := 0) (ms' := 0) (n := 2) mw_1603 mw_1604 mw_108 mw_1605 (okmX9_is) (by decide) (Nat.le_refl _) (by decide) (by decide) dX9_addActor_65 (sd_if_ne (tgt := 116) (by decide) dX9_addActor_68 (sd_iinc (i := 5) (v := 1) (by decide) (by decide) dX9_addActor_116 (sd_goto (tgt := 55) (by decide) dX9_addActor_119 (Sd.go))) (sd_aload_n (i := 0) rfl dX9_addActor_71 (sd_getR clsX9 (f := 35) (by decide) (fun _ _ _ => rfl) mw_1213 dX9_addActor_72 (sd_bipush (v := 8) (by decide) dX9_addActor_75 (sd_iload_n (i := 3) rfl dX9_addActor_77 (sd_imul dX9_addActor_78 (sd_iload (n := 5) dX9_addActor_79 (sd_iadd dX9_addActor_81 (sd_zaload dX9_addActor_82 (sd_if_eq (tgt := 116) (by decide) dX9_addActor_83 (sd_iinc (i := 5) (v := 1) (by decide) (by decide) dX9_addActor_116 (sd_goto (tgt := 55) (by decide) dX9_addActor_119 (Sd.go))) (sd_aload_n (i := 0) rfl dX9_addActor_86 (sd_iload (n := 4) dX9_addActor_87 (sd_iload (n := 5) dX9_addActor_89 (sd_callV (Y' := YX9_canDouble) (mc' := 0) (ms' := 0) (n := 2) clsX9.1 mw_1618 mw_1620 mw_82 mw_108 mw_1621 rfl (okmX9_canDouble) (by decide) (Nat.le_refl _) (by decide) (by decide) dX9_addActor_91 (sd_if_eq (tgt := 116) (by decide) dX9_addActor_94 (sd_iinc (i := 5) (v := 1) (by decide) (by decide) dX9_addActor_116 (sd_goto (tgt := 55) (by decide) dX9_addActor_119 (Sd.go))) (sd_aload_n (i := 0) rfl dX9_addActor_97 (sd_getR clsX9 (f := 45) (by decide) (fun _ _ _ => rfl) mw_1223 dX9_addActor_98 (sd_iload_n (i := 1) rfl dX9_addActor_101 (sd_iload_n (i := 2) rfl dX9_addActor_102 (sd_iconst (v := 1) (by decide) dX9_addActor_103 (sd_iload (n := 4) dX9_addActor_104 (sd_ishl dX9_addActor_106 (sd_ior dX9_addActor_107 (sd_iconst (v := 1) (by decide) dX9_addActor_108 (sd_iload (n := 5) dX9_addActor_109 (sd_ishl dX9_addActor_111 (sd_ior dX9_addActor_112 (sd_iadd dX9_addActor_113 (sd_iconst (v := 1) (by decide) dX9_addActor_114 (sd_zastore dX9_addActor_115 (sd_iinc (i := 5) (v := 1) (by decide) (by decide) dX9_addActor_116 (sd_goto (tgt := 55) (by decide) dX9_addActor_119 (Sd.go)))))))))))))))))))))))))))))))))))))) : Sd l E YX9_addActor (d + 1) 0 0 Q 0 0 55 (bX9_addActor_55 l E d Q)) ls st h hB
theorem eX9_addActor {l : Launch} {E : Ev} {d : Nat} {Q : Option Value → Hp → Prop} {h : Hp} {a0 : Nat} {x1 : Int32} {x2 : Int32} {x3 : Int32} (hk : Go l E YX9_addActor d 0 0 Q 0 0 0 [some (.ref a0), some (.int x1), some (.int x2), some (.int x3), none, none] [] h) : GoM l E YX9_addActor d 0 0 [.ref a0, .int x1, .int x2, .int x3] h Q := GoM.of (by decide +kernel) rfl (by simp [entA, YX9_addActor]) hk
theorem dX9_isShut_0 : decode cX9_isShut 0 = .ok (.iconst 1, 1) := by decide +kernel
theorem dX9_isShut_1 : decode cX9_isShut 1 = .ok (.aload_n 0, 1) := by decide +kernel
theorem dX9_isShut_2 : decode cX9_isShut 2 = .ok (.getfield 13, 3) := by decide +kernel
theorem dX9_isShut_5 : decode cX9_isShut 5 = .ok (.iconst 0, 1) := by decide +kernel
theorem dX9_isShut_6 : decode cX9_isShut 6 = .ok (.iaload, 1) := by decide +kernel
theorem dX9_isShut_7 : decode cX9_isShut 7 = .ok (.ishl, 1) := by decide +kernel
theorem dX9_isShut_8 : decode cX9_isShut 8 = .ok (.iconst 1, 1) := by decide +kernel
theorem dX9_isShut_9 : decode cX9_isShut 9 = .ok (.isub, 1) := by decide +kernel
theorem dX9_isShut_10 : decode cX9_isShut 10 = .ok (.iload_n 1, 1) := by decide +kernel
theorem dX9_isShut_11 : decode cX9_isShut 11 = .ok (.iconst (-1), 1) := by decide +kernel
theorem dX9_isShut_12 : decode cX9_isShut 12 = .ok (.ixor, 1) := by decide +kernel
theorem dX9_isShut_13 : decode cX9_isShut 13 = .ok (.iand, 1) := by decide +kernel
theorem dX9_isShut_14 : decode cX9_isShut 14 = .ok (.istore_n 2, 1) := by decide +kernel
theorem dX9_isShut_15 : decode cX9_isShut 15 = .ok (.aload_n 0, 1) := by decide +kernel
theorem dX9_isShut_16 : decode cX9_isShut 16 = .ok (.getfield 111, 3) := by decide +kernel
theorem dX9_isShut_19 : decode cX9_isShut 19 = .ok (.sipush 256, 3) := by decide +kernel
theorem dX9_isShut_22 : decode cX9_isShut 22 = .ok (.iload_n 2, 1) := by decide +kernel
theorem dX9_isShut_23 : decode cX9_isShut 23 = .ok (.imul, 1) := by decide +kernel
theorem dX9_isShut_24 : decode cX9_isShut 24 = .ok (.iconst 1, 1) := by decide +kernel
theorem dX9_isShut_25 : decode cX9_isShut 25 = .ok (.aload_n 0, 1) := by decide +kernel
theorem dX9_isShut_26 : decode cX9_isShut 26 = .ok (.getfield 13, 3) := by decide +kernel
theorem dX9_isShut_29 : decode cX9_isShut 29 = .ok (.iconst 1, 1) := by decide +kernel
theorem dX9_isShut_30 : decode cX9_isShut 30 = .ok (.iaload, 1) := by decide +kernel
theorem dX9_isShut_31 : decode cX9_isShut 31 = .ok (.ishl, 1) := by decide +kernel
theorem dX9_isShut_32 : decode cX9_isShut 32 = .ok (.iadd, 1) := by decide +kernel
theorem dX9_isShut_33 : decode cX9_isShut 33 = .ok (.iconst 1, 1) := by decide +kernel
theorem dX9_isShut_34 : decode cX9_isShut 34 = .ok (.isub, 1) := by decide +kernel
theorem dX9_isShut_35 : decode cX9_isShut 35 = .ok (.baload, 1) := by decide +kernel
theorem dX9_isShut_36 : decode cX9_isShut 36 = .ok (.ifCond .ne 7, 3) := by decide +kernel
theorem dX9_isShut_39 : decode cX9_isShut 39 = .ok (.iconst 1, 1) := by decide +kernel
theorem dX9_isShut_40 : decode cX9_isShut 40 = .ok (.goto 4, 3) := by decide +kernel
theorem dX9_isShut_43 : decode cX9_isShut 43 = .ok (.iconst 0, 1) := by decide +kernel
theorem dX9_isShut_44 : decode cX9_isShut 44 = .ok (.ireturn, 1) := by decide +kernel
def bX9_isShut_0 (l : Launch) (E : Ev) (d : Nat) (Q : Option Value → Hp → Prop) : Kt := k_push (.int 1) (k_aload 0 (k_getR 9 55 3 (k_push (.int 0) (k_iaload (k_ishl (k_push (.int 1) (k_isub (k_iload 1 (k_push (.int (-1)) (k_ixor (k_iand (k_istore 2 (k_aload 0 (k_getR 9 55 45 (k_push (.int 256) (k_iload 2 (k_imul (k_push (.int 1) (k_aload 0 (k_getR 9 55 3 (k_push (.int 1) (k_iaload (k_ishl (k_iadd (k_push (.int 1) (k_isub (k_zaload (k_if_ne (k_push (.int 0) (k_iret .boolean Q)) (k_push (.int 1) (k_iret .boolean Q))))))))))))))))))))))))))))))
set_option maxRecDepth 100000 in
set_option maxHeartbeats 4000000 in
theorem gX9_isShut_0 {l : Launch} {E : Ev} {d : Nat} {Q : Option Value → Hp → Prop} {ls : Lv} {st : List Value} {h : Hp} (hB : bX9_isShut_0 l E d Q ls st h) : Go l E YX9_isShut (d + 1) 0 0 Q 0 0 0 ls st h :=
  (sd_iconst (v := 1) (by decide) dX9_isShut_0 (sd_aload_n (i := 0) rfl dX9_isShut_1 (sd_getR clsX9 (f := 3) (by decide) (fun _ _ _ => rfl) mw_1181 dX9_isShut_2 (sd_iconst (v := 0) (by decide) dX9_isShut_5 (sd_iaload dX9_isShut_6 (sd_ishl dX9_isShut_7 (sd_iconst (v := 1) (by decide) dX9_isShut_8 (sd_isub dX9_isShut_9 (sd_iload_n (i := 1) rfl dX9_isShut_10 (sd_iconst (v := (-1)) (by decide) dX9_isShut_11 (sd_ixor dX9_isShut_12 (sd_iand dX9_isShut_13 (sd_istore_n (i := 2) rfl (by decide) dX9_isShut_14 (sd_aload_n (i := 0) rfl dX9_isShut_15 (sd_getR clsX9 (f := 45) (by decide) (fun _ _ _ => rfl) mw_1223 dX9_isShut_16 (sd_sipush (v := 256) (by decide) dX9_isShut_19 (sd_iload_n (i := 2) rfl dX9_isShut_22 (sd_imul dX9_isShut_23 (sd_iconst (v := 1) (by decide) dX9_isShut_24 (sd_aload_n (i := 0) rfl dX9_isShut_25 (sd_getR clsX9 (f := 3) (by decide) (fun _ _ _ => rfl) mw_1181 dX9_isShut_26 (sd_iconst (v := 1) (by decide) dX9_isShut_29 (sd_iaload dX9_isShut_30 (sd_ishl dX9_isShut_31 (sd_iadd dX9_isShut_32 (sd_iconst (v := 1) (by decide) dX9_isShut_33 (sd_isub dX9_isShut_34 (sd_zaload dX9_isShut_35 (sd_if_ne (tgt := 43) (by decide) dX9_isShut_36 (sd_iconst (v := 0) (by decide) dX9_isShut_43 (sd_iret (ty := .boolean) rfl (by decide) (by decide) dX9_isShut_44)) (sd_iconst (v := 1) (by decide) dX9_isShut_39 (sd_goto (tgt := 44) (by decide) dX9_isShut_40 (sd_iret (ty := .boolean) rfl (by decide) (by decide) dX9_isShut_44))))))))))))))))))))))))))))))) : Sd l E YX9_isShut (d + 1) 0 0 Q 0 0 0 (bX9_isShut_0 l E d Q)) ls st h hB
theorem eX9_isShut {l : Launch} {E : Ev} {d : Nat} {Q : Option Value → Hp → Prop} {h : Hp} {a0 : Nat} {x1 : Int32} (hk : Go l E YX9_isShut d 0 0 Q 0 0 0 [some (.ref a0), some (.int x1), none] [] h) : GoM l E YX9_isShut d 0 0 [.ref a0, .int x1] h Q := GoM.of (by decide +kernel) rfl (by simp [entA, YX9_isShut]) hk
theorem dX9_layPlays_0 : decode cX9_layPlays 0 = .ok (.aload_n 0, 1) := by decide +kernel
theorem dX9_layPlays_1 : decode cX9_layPlays 1 = .ok (.invokevirtual 351, 3) := by decide +kernel
theorem dX9_layPlays_4 : decode cX9_layPlays 4 = .ok (.aload_n 0, 1) := by decide +kernel
theorem dX9_layPlays_5 : decode cX9_layPlays 5 = .ok (.invokevirtual 354, 3) := by decide +kernel
theorem dX9_layPlays_8 : decode cX9_layPlays 8 = .ok (.aload_n 0, 1) := by decide +kernel
theorem dX9_layPlays_9 : decode cX9_layPlays 9 = .ok (.invokevirtual 414, 3) := by decide +kernel
theorem dX9_layPlays_12 : decode cX9_layPlays 12 = .ok (.return_, 1) := by decide +kernel
def bX9_layPlays_0 (l : Launch) (E : Ev) (d : Nat) (Q : Option Value → Hp → Prop) : Kt := k_aload 0 (k_callV l E 9 55 YX9_asIs d 0 0 0 (k_aload 0 (k_callV l E 9 55 YX9_find d 0 0 0 (k_aload 0 (k_callV l E 9 55 YX9_findPlays d 0 0 0 (k_vret Q))))))
set_option maxRecDepth 100000 in
set_option maxHeartbeats 4000000 in
theorem gX9_layPlays_0 {l : Launch} {E : Ev} {d : Nat} {Q : Option Value → Hp → Prop} {ls : Lv} {st : List Value} {h : Hp} (hB : bX9_layPlays_0 l E d Q ls st h) : Go l E YX9_layPlays (d + 1) 0 0 Q 0 0 0 ls st h :=
  (sd_aload_n (i := 0) rfl dX9_layPlays_0 (sd_callV (Y' := YX9_asIs) (mc' := 0) (ms' := 0) (n := 0) clsX9.1 mw_1559 mw_1561 mw_71 mw_108 mw_1562 rfl (okmX9_asIs) (by decide) (Nat.le_refl _) (by decide) (by decide) dX9_layPlays_1 (sd_aload_n (i := 0) rfl dX9_layPlays_4 (sd_callV (Y' := YX9_find) (mc' := 0) (ms' := 0) (n := 0) clsX9.1 mw_1563 mw_1565 mw_72 mw_108 mw_1566 rfl (okmX9_find) (by decide) (Nat.le_refl _) (by decide) (by decide) dX9_layPlays_5 (sd_aload_n (i := 0) rfl dX9_layPlays_8 (sd_callV (Y' := YX9_findPlays) (mc' := 0) (ms' := 0) (n := 0) clsX9.1 mw_1678 mw_1680 mw_89 mw_108 mw_1681 rfl (okmX9_findPlays) (by decide) (Nat.le_refl _) (by decide) (by decide) dX9_layPlays_9 (sd_vret rfl (by decide) (by decide) dX9_layPlays_12)))))) : Sd l E YX9_layPlays (d + 1) 0 0 Q 0 0 0 (bX9_layPlays_0 l E d Q)) ls st h hB
theorem eX9_layPlays {l : Launch} {E : Ev} {d : Nat} {Q : Option Value → Hp → Prop} {h : Hp} {a0 : Nat} (hk : Go l E YX9_layPlays d 0 0 Q 0 0 0 [some (.ref a0)] [] h) : GoM l E YX9_layPlays d 0 0 [.ref a0] h Q := GoM.of (by decide +kernel) rfl (by simp [entA, YX9_layPlays]) hk
theorem dX9_shut_0 : decode cX9_shut 0 = .ok (.aload_n 0, 1) := by decide +kernel
theorem dX9_shut_1 : decode cX9_shut 1 = .ok (.iconst 0, 1) := by decide +kernel
theorem dX9_shut_2 : decode cX9_shut 2 = .ok (.putfield 123, 3) := by decide +kernel
theorem dX9_shut_5 : decode cX9_shut 5 = .ok (.aload_n 0, 1) := by decide +kernel
theorem dX9_shut_6 : decode cX9_shut 6 = .ok (.iload_n 1, 1) := by decide +kernel
theorem dX9_shut_7 : decode cX9_shut 7 = .ok (.invokevirtual 166, 3) := by decide +kernel
theorem dX9_shut_10 : decode cX9_shut 10 = .ok (.ifCond .ne 5, 3) := by decide +kernel
theorem dX9_shut_13 : decode cX9_shut 13 = .ok (.iconst (-1), 1) := by decide +kernel
theorem dX9_shut_14 : decode cX9_shut 14 = .ok (.ireturn, 1) := by decide +kernel
theorem dX9_shut_15 : decode cX9_shut 15 = .ok (.aload_n 0, 1) := by decide +kernel
theorem dX9_shut_16 : decode cX9_shut 16 = .ok (.invokevirtual 417, 3) := by decide +kernel
theorem dX9_shut_19 : decode cX9_shut 19 = .ok (.aload_n 0, 1) := by decide +kernel
theorem dX9_shut_20 : decode cX9_shut 20 = .ok (.iload_n 1, 1) := by decide +kernel
theorem dX9_shut_21 : decode cX9_shut 21 = .ok (.invokevirtual 420, 3) := by decide +kernel
theorem dX9_shut_24 : decode cX9_shut 24 = .ok (.ifCond .eq 7, 3) := by decide +kernel
theorem dX9_shut_27 : decode cX9_shut 27 = .ok (.iconst 1, 1) := by decide +kernel
theorem dX9_shut_28 : decode cX9_shut 28 = .ok (.goto 4, 3) := by decide +kernel
theorem dX9_shut_31 : decode cX9_shut 31 = .ok (.iconst 0, 1) := by decide +kernel
theorem dX9_shut_32 : decode cX9_shut 32 = .ok (.ireturn, 1) := by decide +kernel
def bX9_shut_0 (l : Launch) (E : Ev) (d : Nat) (Q : Option Value → Hp → Prop) : Kt := k_aload 0 (k_push (.int 0) (k_putI 9 55 0 (k_aload 0 (k_iload 1 (k_callV l E 9 55 YX9_areActors d 0 0 1 (k_if_ne (k_aload 0 (k_callV l E 9 55 YX9_layPlays d 0 0 0 (k_aload 0 (k_iload 1 (k_callV l E 9 55 YX9_isShut d 0 0 1 (k_if_eq (k_push (.int 0) (k_iret .int Q)) (k_push (.int 1) (k_iret .int Q)))))))) (k_push (.int (-1)) (k_iret .int Q))))))))
set_option maxRecDepth 100000 in
set_option maxHeartbeats 4000000 in
theorem gX9_shut_0 {l : Launch} {E : Ev} {d : Nat} {Q : Option Value → Hp → Prop} {ls : Lv} {st : List Value} {h : Hp} (hB : bX9_shut_0 l E d Q ls st h) : Go l E YX9_shut (d + 1) 0 0 Q 0 0 0 ls st h :=
  (sd_aload_n (i := 0) rfl dX9_shut_0 (sd_iconst (v := 0) (by decide) dX9_shut_1 (sd_putI clsX9 (f := 0) (by decide) (fun _ _ _ => rfl) rfl (Or.inl rfl) mw_1178 dX9_shut_2 (sd_aload_n (i := 0) rfl dX9_shut_5 (sd_iload_n (i := 1) rfl dX9_shut_6 (sd_callV (Y' := YX9_areActors) (mc' := 0) (ms' := 0) (n := 1) clsX9.1 mw_1413 mw_1415 mw_50 mw_108 mw_1416 rfl (okmX9_areActors) (by decide) (Nat.le_refl _) (by decide) (by decide) dX9_shut_7 (sd_if_ne (tgt := 15) (by decide) dX9_shut_10 (sd_aload_n (i := 0) rfl dX9_shut_15 (sd_callV (Y' := YX9_layPlays) (mc' := 0) (ms' := 0) (n := 0) clsX9.1 mw_1674 mw_1676 mw_88 mw_108 mw_1677 rfl (okmX9_layPlays) (by decide) (Nat.le_refl _) (by decide) (by decide) dX9_shut_16 (sd_aload_n (i := 0) rfl dX9_shut_19 (sd_iload_n (i := 1) rfl dX9_shut_20 (sd_callV (Y' := YX9_isShut) (mc' := 0) (ms' := 0) (n := 1) clsX9.1 mw_1686 mw_1688 mw_91 mw_108 mw_1689 rfl (okmX9_isShut) (by decide) (Nat.le_refl _) (by decide) (by decide) dX9_shut_21 (sd_if_eq (tgt := 31) (by decide) dX9_shut_24 (sd_iconst (v := 0) (by decide) dX9_shut_31 (sd_iret (ty := .int) rfl (by decide) (by decide) dX9_shut_32)) (sd_iconst (v := 1) (by decide) dX9_shut_27 (sd_goto (tgt := 32) (by decide) dX9_shut_28 (sd_iret (ty := .int) rfl (by decide) (by decide) dX9_shut_32))))))))) (sd_iconst (v := (-1)) (by decide) dX9_shut_13 (sd_iret (ty := .int) rfl (by decide) (by decide) dX9_shut_14)))))))) : Sd l E YX9_shut (d + 1) 0 0 Q 0 0 0 (bX9_shut_0 l E d Q)) ls st h hB
theorem eX9_shut {l : Launch} {E : Ev} {d : Nat} {Q : Option Value → Hp → Prop} {h : Hp} {a0 : Nat} {x1 : Int32} (hk : Go l E YX9_shut d 0 0 Q 0 0 0 [some (.ref a0), some (.int x1)] [] h) : GoM l E YX9_shut d 0 0 [.ref a0, .int x1] h Q := GoM.of (by decide +kernel) rfl (by simp [entA, YX9_shut]) hk
theorem dX9_isClosing_0 : decode cX9_isClosing 0 = .ok (.aload_n 0, 1) := by decide +kernel
theorem dX9_isClosing_1 : decode cX9_isClosing 1 = .ok (.iload_n 1, 1) := by decide +kernel
theorem dX9_isClosing_2 : decode cX9_isClosing 2 = .ok (.invokevirtual 420, 3) := by decide +kernel
theorem dX9_isClosing_5 : decode cX9_isClosing 5 = .ok (.istore_n 2, 1) := by decide +kernel
theorem dX9_isClosing_6 : decode cX9_isClosing 6 = .ok (.iconst 0, 1) := by decide +kernel
theorem dX9_isClosing_7 : decode cX9_isClosing 7 = .ok (.istore_n 3, 1) := by decide +kernel
theorem dX9_isClosing_8 : decode cX9_isClosing 8 = .ok (.iload_n 3, 1) := by decide +kernel
theorem dX9_isClosing_9 : decode cX9_isClosing 9 = .ok (.bipush 8, 2) := by decide +kernel
theorem dX9_isClosing_11 : decode cX9_isClosing 11 = .ok (.if_icmp .ge 41, 3) := by decide +kernel
theorem dX9_isClosing_14 : decode cX9_isClosing 14 = .ok (.iload_n 2, 1) := by decide +kernel
theorem dX9_isClosing_15 : decode cX9_isClosing 15 = .ok (.ifCond .eq 37, 3) := by decide +kernel
theorem dX9_isClosing_18 : decode cX9_isClosing 18 = .ok (.iload_n 1, 1) := by decide +kernel
theorem dX9_isClosing_19 : decode cX9_isClosing 19 = .ok (.iload_n 3, 1) := by decide +kernel
theorem dX9_isClosing_20 : decode cX9_isClosing 20 = .ok (.invokestatic 363, 3) := by decide +kernel
theorem dX9_isClosing_23 : decode cX9_isClosing 23 = .ok (.ifCond .eq 17, 3) := by decide +kernel
theorem dX9_isClosing_26 : decode cX9_isClosing 26 = .ok (.aload_n 0, 1) := by decide +kernel
theorem dX9_isClosing_27 : decode cX9_isClosing 27 = .ok (.iload_n 1, 1) := by decide +kernel
theorem dX9_isClosing_28 : decode cX9_isClosing 28 = .ok (.iconst 1, 1) := by decide +kernel
theorem dX9_isClosing_29 : decode cX9_isClosing 29 = .ok (.iload_n 3, 1) := by decide +kernel
theorem dX9_isClosing_30 : decode cX9_isClosing 30 = .ok (.ishl, 1) := by decide +kernel
theorem dX9_isClosing_31 : decode cX9_isClosing 31 = .ok (.iconst (-1), 1) := by decide +kernel
theorem dX9_isClosing_32 : decode cX9_isClosing 32 = .ok (.ixor, 1) := by decide +kernel
theorem dX9_isClosing_33 : decode cX9_isClosing 33 = .ok (.iand, 1) := by decide +kernel
theorem dX9_isClosing_34 : decode cX9_isClosing 34 = .ok (.invokevirtual 420, 3) := by decide +kernel
theorem dX9_isClosing_37 : decode cX9_isClosing 37 = .ok (.ifCond .ne 7, 3) := by decide +kernel
theorem dX9_isClosing_40 : decode cX9_isClosing 40 = .ok (.iconst 1, 1) := by decide +kernel
theorem dX9_isClosing_41 : decode cX9_isClosing 41 = .ok (.goto 4, 3) := by decide +kernel
theorem dX9_isClosing_44 : decode cX9_isClosing 44 = .ok (.iconst 0, 1) := by decide +kernel
theorem dX9_isClosing_45 : decode cX9_isClosing 45 = .ok (.istore_n 2, 1) := by decide +kernel
theorem dX9_isClosing_46 : decode cX9_isClosing 46 = .ok (.iinc 3 1, 3) := by decide +kernel
theorem dX9_isClosing_49 : decode cX9_isClosing 49 = .ok (.goto (-41), 3) := by decide +kernel
theorem dX9_isClosing_52 : decode cX9_isClosing 52 = .ok (.iload_n 2, 1) := by decide +kernel
theorem dX9_isClosing_53 : decode cX9_isClosing 53 = .ok (.ireturn, 1) := by decide +kernel
def bX9_isClosing_0 (l : Launch) (E : Ev) (d : Nat) (Q : Option Value → Hp → Prop) : Kt := k_aload 0 (k_iload 1 (k_callV l E 9 55 YX9_isShut d 0 0 1 (k_istore 2 (k_push (.int 0) (k_istore 3 (Go l E YX9_isClosing (d + 1) 0 0 Q 0 0 8))))))
set_option maxRecDepth 100000 in
set_option maxHeartbeats 4000000 in
theorem gX9_isClosing_0 {l : Launch} {E : Ev} {d : Nat} {Q : Option Value → Hp → Prop} {ls : Lv} {st : List Value} {h : Hp} (hB : bX9_isClosing_0 l E d Q ls st h) : Go l E YX9_isClosing (d + 1) 0 0 Q 0 0 0 ls st h :=
  (sd_aload_n (i := 0) rfl dX9_isClosing_0 (sd_iload_n (i := 1) rfl dX9_isClosing_1 (sd_callV (Y' := YX9_isShut) (mc' := 0) (ms' := 0) (n := 1) clsX9.1 mw_1686 mw_1688 mw_91 mw_108 mw_1689 rfl (okmX9_isShut) (by decide) (Nat.le_refl _) (by decide) (by decide) dX9_isClosing_2 (sd_istore_n (i := 2) rfl (by decide) dX9_isClosing_5 (sd_iconst (v := 0) (by decide) dX9_isClosing_6 (sd_istore_n (i := 3) rfl (by decide) dX9_isClosing_7 (Sd.go)))))) : Sd l E YX9_isClosing (d + 1) 0 0 Q 0 0 0 (bX9_isClosing_0 l E d Q)) ls st h hB
def bX9_isClosing_8 (l : Launch) (E : Ev) (d : Nat) (Q : Option Value → Hp → Prop) : Kt := k_iload 3 (k_push (.int 8) (k_icmp_ge (k_iload 2 (k_iret .boolean Q)) (k_iload 2 (k_if_eq (k_iload 2 (k_iret .boolean Q)) (k_iload 1 (k_iload 3 (k_callS l E YX9_is d 0 0 2 (k_if_eq (k_push (.int 1) (k_istore 2 (k_iinc 3 1 (Go l E YX9_isClosing (d + 1) 0 0 Q 0 0 8)))) (k_aload 0 (k_iload 1 (k_push (.int 1) (k_iload 3 (k_ishl (k_push (.int (-1)) (k_ixor (k_iand (k_callV l E 9 55 YX9_isShut d 0 0 1 (k_if_ne (k_push (.int 0) (k_istore 2 (k_iinc 3 1 (Go l E YX9_isClosing (d + 1) 0 0 Q 0 0 8)))) (k_push (.int 1) (k_istore 2 (k_iinc 3 1 (Go l E YX9_isClosing (d + 1) 0 0 Q 0 0 8))))))))))))))))))))))
set_option maxRecDepth 100000 in
set_option maxHeartbeats 4000000 in
theorem gX9_isClosing_8 {l : Launch} {E : Ev} {d : Nat} {Q : Option Value → Hp → Prop} {ls : Lv} {st : List Value} {h : Hp} (hB : bX9_isClosing_8 l E d Q ls st h) : Go l E YX9_isClosing (d + 1) 0 0 Q 0 0 8 ls st h :=
  (sd_iload_n (i := 3) rfl dX9_isClosing_8 (sd_bipush (v := 8) (by decide) dX9_isClosing_9 (sd_icmp_ge (tgt := 52) (by decide) dX9_isClosing_11 (sd_iload_n (i := 2) rfl dX9_isClosing_52 (sd_iret (ty := .boolean) rfl (by decide) (by decide) dX9_isClosing_53)) (sd_iload_n (i := 2) rfl dX9_isClosing_14 (sd_if_eq (tgt := 52) (by decide) dX9_isClosing_15 (sd_iload_n (i := 2) rfl dX9_isClosing_52 (sd_iret (ty := .boolean) rfl (by decide) (by decide) dX9_isClosing_53)) (sd_iload_n (i := 1) rfl dX9_isClosing_18 (sd_iload_n (i := 3) rfl dX9_isClosing_19 (sd_callS (Y' := YX9_is) (mc' := 0) (ms' := 0) (n := 2) mw_1603 mw_1604 mw_108 mw_1605 (okmX9_is) (by decide) (Nat.le_refl _) (by decide) (by decide) dX9_isClosing_20 (sd_if_eq (tgt := 40) (by decide) dX9_isClosing_23 (sd_iconst (v := 1) (by decide) dX9_isClosing_40 (sd_goto (tgt := 45) (by decide) dX9_isClosing_41 (sd_istore_n (i := 2) rfl (by decide) dX9_isClosing_45 (sd_iinc (i := 3) (v := 1) (by decide) (by decide) dX9_isClosing_46 (sd_goto (tgt := 8) (by decide) dX9_isClosing_49 (Sd.go)))))) (sd_aload_n (i := 0) rfl dX9_isClosing_26 (sd_iload_n (i := 1) rfl dX9_isClosing_27 (sd_iconst (v := 1) (by decide) dX9_isClosing_28 (sd_iload_n (i := 3) rfl dX9_isClosing_29 (sd_ishl dX9_isClosing_30 (sd_iconst (v := (-1)) (by decide) dX9_isClosing_31 (sd_ixor dX9_isClosing_32 (sd_iand dX9_isClosing_33 (sd_callV (Y' := YX9_isShut) (mc' := 0) (ms' := 0) (n := 1) clsX9.1 mw_1686 mw_1688 mw_91 mw_108 mw_1689 rfl (okmX9_isShut) (by decide) (Nat.le_refl _) (by decide) (by decide) dX9_isClosing_34 (sd_if_ne (tgt := 44) (by decide) dX9_isClosing_37 (sd_iconst (v := 0) (by decide) dX9_isClosing_44 (sd_istore_n (i := 2) rfl (by decide) dX9_isClosing_45 (sd_iinc (i := 3) (v := 1) (by decide) (by decide) dX9_isClosing_46 (sd_goto (tgt := 8) (by decide) dX9_isClosing_49 (Sd.go))))) (sd_iconst (v := 1) (by decide) dX9_isClosing_40 (sd_goto (tgt := 45) (by decide) dX9_isClosing_41 (sd_istore_n (i := 2) rfl (by decide) dX9_isClosing_45 (sd_iinc (i := 3) (v := 1) (by decide) (by decide) dX9_isClosing_46 (sd_goto (tgt := 8) (by decide) dX9_isClosing_49 (Sd.go)))))))))))))))))))))))) : Sd l E YX9_isClosing (d + 1) 0 0 Q 0 0 8 (bX9_isClosing_8 l E d Q)) ls st h hB
theorem eX9_isClosing {l : Launch} {E : Ev} {d : Nat} {Q : Option Value → Hp → Prop} {h : Hp} {a0 : Nat} {x1 : Int32} (hk : Go l E YX9_isClosing d 0 0 Q 0 0 0 [some (.ref a0), some (.int x1), none, none] [] h) : GoM l E YX9_isClosing d 0 0 [.ref a0, .int x1] h Q := GoM.of (by decide +kernel) rfl (by simp [entA, YX9_isClosing]) hk
theorem dX9_closing_0 : decode cX9_closing 0 = .ok (.aload_n 0, 1) := by decide +kernel
theorem dX9_closing_1 : decode cX9_closing 1 = .ok (.iconst 0, 1) := by decide +kernel
theorem dX9_closing_2 : decode cX9_closing 2 = .ok (.putfield 123, 3) := by decide +kernel
theorem dX9_closing_5 : decode cX9_closing 5 = .ok (.aload_n 0, 1) := by decide +kernel
theorem dX9_closing_6 : decode cX9_closing 6 = .ok (.invokevirtual 417, 3) := by decide +kernel
theorem dX9_closing_9 : decode cX9_closing 9 = .ok (.iconst 0, 1) := by decide +kernel
theorem dX9_closing_10 : decode cX9_closing 10 = .ok (.istore_n 2, 1) := by decide +kernel
theorem dX9_closing_11 : decode cX9_closing 11 = .ok (.iconst 0, 1) := by decide +kernel
theorem dX9_closing_12 : decode cX9_closing 12 = .ok (.istore_n 3, 1) := by decide +kernel
theorem dX9_closing_13 : decode cX9_closing 13 = .ok (.iload_n 3, 1) := by decide +kernel
theorem dX9_closing_14 : decode cX9_closing 14 = .ok (.aload_n 0, 1) := by decide +kernel
theorem dX9_closing_15 : decode cX9_closing 15 = .ok (.getfield 13, 3) := by decide +kernel
theorem dX9_closing_18 : decode cX9_closing 18 = .ok (.iconst 0, 1) := by decide +kernel
theorem dX9_closing_19 : decode cX9_closing 19 = .ok (.iaload, 1) := by decide +kernel
theorem dX9_closing_20 : decode cX9_closing 20 = .ok (.if_icmp .gt 60, 3) := by decide +kernel
theorem dX9_closing_23 : decode cX9_closing 23 = .ok (.iconst 0, 1) := by decide +kernel
theorem dX9_closing_24 : decode cX9_closing 24 = .ok (.istore 4, 2) := by decide +kernel
theorem dX9_closing_26 : decode cX9_closing 26 = .ok (.iload 4, 2) := by decide +kernel
theorem dX9_closing_28 : decode cX9_closing 28 = .ok (.iconst 1, 1) := by decide +kernel
theorem dX9_closing_29 : decode cX9_closing 29 = .ok (.aload_n 0, 1) := by decide +kernel
theorem dX9_closing_30 : decode cX9_closing 30 = .ok (.getfield 13, 3) := by decide +kernel
theorem dX9_closing_33 : decode cX9_closing 33 = .ok (.iconst 0, 1) := by decide +kernel
theorem dX9_closing_34 : decode cX9_closing 34 = .ok (.iaload, 1) := by decide +kernel
theorem dX9_closing_35 : decode cX9_closing 35 = .ok (.ishl, 1) := by decide +kernel
theorem dX9_closing_36 : decode cX9_closing 36 = .ok (.if_icmp .ge 38, 3) := by decide +kernel
theorem dX9_closing_39 : decode cX9_closing 39 = .ok (.iload 4, 2) := by decide +kernel
theorem dX9_closing_41 : decode cX9_closing 41 = .ok (.invokestatic 423, 3) := by decide +kernel
theorem dX9_closing_44 : decode cX9_closing 44 = .ok (.iload_n 3, 1) := by decide +kernel
theorem dX9_closing_45 : decode cX9_closing 45 = .ok (.if_icmp .ne 23, 3) := by decide +kernel
theorem dX9_closing_48 : decode cX9_closing 48 = .ok (.aload_n 0, 1) := by decide +kernel
theorem dX9_closing_49 : decode cX9_closing 49 = .ok (.iload 4, 2) := by decide +kernel
theorem dX9_closing_51 : decode cX9_closing 51 = .ok (.invokevirtual 426, 3) := by decide +kernel
theorem dX9_closing_54 : decode cX9_closing 54 = .ok (.ifCond .eq 14, 3) := by decide +kernel
theorem dX9_closing_57 : decode cX9_closing 57 = .ok (.iload_n 2, 1) := by decide +kernel
theorem dX9_closing_58 : decode cX9_closing 58 = .ok (.iload_n 1, 1) := by decide +kernel
theorem dX9_closing_59 : decode cX9_closing 59 = .ok (.if_icmp .ne 6, 3) := by decide +kernel
theorem dX9_closing_62 : decode cX9_closing 62 = .ok (.iload 4, 2) := by decide +kernel
theorem dX9_closing_64 : decode cX9_closing 64 = .ok (.ireturn, 1) := by decide +kernel
theorem dX9_closing_65 : decode cX9_closing 65 = .ok (.iinc 2 1, 3) := by decide +kernel
theorem dX9_closing_68 : decode cX9_closing 68 = .ok (.iinc 4 1, 3) := by decide +kernel
theorem dX9_closing_71 : decode cX9_closing 71 = .ok (.goto (-45), 3) := by decide +kernel
theorem dX9_closing_74 : decode cX9_closing 74 = .ok (.iinc 3 1, 3) := by decide +kernel
theorem dX9_closing_77 : decode cX9_closing 77 = .ok (.goto (-64), 3) := by decide +kernel
theorem dX9_closing_80 : decode cX9_closing 80 = .ok (.iload_n 1, 1) := by decide +kernel
theorem dX9_closing_81 : decode cX9_closing 81 = .ok (.iconst (-1), 1) := by decide +kernel
theorem dX9_closing_82 : decode cX9_closing 82 = .ok (.if_icmp .ne 7, 3) := by decide +kernel
theorem dX9_closing_85 : decode cX9_closing 85 = .ok (.iload_n 2, 1) := by decide +kernel
theorem dX9_closing_86 : decode cX9_closing 86 = .ok (.goto 4, 3) := by decide +kernel
theorem dX9_closing_89 : decode cX9_closing 89 = .ok (.iconst (-1), 1) := by decide +kernel
theorem dX9_closing_90 : decode cX9_closing 90 = .ok (.ireturn, 1) := by decide +kernel
def bX9_closing_0 (l : Launch) (E : Ev) (d : Nat) (Q : Option Value → Hp → Prop) : Kt := k_aload 0 (k_push (.int 0) (k_putI 9 55 0 (k_aload 0 (k_callV l E 9 55 YX9_layPlays d 0 0 0 (k_push (.int 0) (k_istore 2 (k_push (.int 0) (k_istore 3 (Go l E YX9_closing (d + 1) 0 0 Q 0 0 13)))))))))
set_option maxRecDepth 100000 in
set_option maxHeartbeats 4000000 in
theorem gX9_closing_0 {l : Launch} {E : Ev} {d : Nat} {Q : Option Value → Hp → Prop} {ls : Lv} {st : List Value} {h : Hp} (hB : bX9_closing_0 l E d Q ls st h) : Go l E YX9_closing (d + 1) 0 0 Q 0 0 0 ls st h :=
  (sd_aload_n (i := 0) rfl dX9_closing_0 (sd_iconst (v := 0) (by decide) dX9_closing_1 (sd_putI clsX9 (f := 0) (by decide) (fun _ _ _ => rfl) rfl (Or.inl rfl) mw_1178 dX9_closing_2 (sd_aload_n (i := 0) rfl dX9_closing_5 (sd_callV (Y' := YX9_layPlays) (mc' := 0) (ms' := 0) (n := 0) clsX9.1 mw_1674 mw_1676 mw_88 mw_108 mw_1677 rfl (okmX9_layPlays) (by decide) (Nat.le_refl _) (by decide) (by decide) dX9_closing_6 (sd_iconst (v := 0) (by decide) dX9_closing_9 (sd_istore_n (i := 2) rfl (by decide) dX9_closing_10 (sd_iconst (v := 0) (by decide) dX9_closing_11 (sd_istore_n (i := 3) rfl (by decide) dX9_closing_12 (Sd.go))))))))) : Sd l E YX9_closing (d + 1) 0 0 Q 0 0 0 (bX9_closing_0 l E d Q)) ls st h hB
def bX9_closing_13 (l : Launch) (E : Ev) (d : Nat) (Q : Option Value → Hp → Prop) : Kt := k_iload 3 (k_aload 0 (k_getR 9 55 3 (k_push (.int 0) (k_iaload (k_icmp_gt (k_iload 1 (k_push (.int (-1)) (k_icmp_ne (k_push (.int (-1)) (k_iret .int Q)) (k_iload 2 (k_iret .int Q))))) (k_push (.int 0) (k_istore 4 (Go l E YX9_closing (d + 1) 0 0 Q 0 0 26))))))))
set_option maxRecDepth 100000 in
set_option maxHeartbeats 4000000 in
theorem gX9_closing_13 {l : Launch} {E : Ev} {d : Nat} {Q : Option Value → Hp → Prop} {ls : Lv} {st : List Value} {h : Hp} (hB : bX9_closing_13 l E d Q ls st h) : Go l E YX9_closing (d + 1) 0 0 Q 0 0 13 ls st h :=
  (sd_iload_n (i := 3) rfl dX9_closing_13 (sd_aload_n (i := 0) rfl dX9_closing_14 (sd_getR clsX9 (f := 3) (by decide) (fun _ _ _ => rfl) mw_1181 dX9_closing_15 (sd_iconst (v := 0) (by decide) dX9_closing_18 (sd_iaload dX9_closing_19 (sd_icmp_gt (tgt := 80) (by decide) dX9_closing_20 (sd_iload_n (i := 1) rfl dX9_closing_80 (sd_iconst (v := (-1)) (by decide) dX9_closing_81 (sd_icmp_ne (tgt := 89) (by decide) dX9_closing_82 (sd_iconst (v := (-1)) (by decide) dX9_closing_89 (sd_iret (ty := .int) rfl (by decide) (by decide) dX9_closing_90)) (sd_iload_n (i := 2) rfl dX9_closing_85 (sd_goto (tgt := 90) (by decide) dX9_closing_86 (sd_iret (ty := .int) rfl (by decide) (by decide) dX9_closing_90)))))) (sd_iconst (v := 0) (by decide) dX9_closing_23 (sd_istore (i := 4) (by decide) dX9_closing_24 (Sd.go)))))))) : Sd l E YX9_closing (d + 1) 0 0 Q 0 0 13 (bX9_closing_13 l E d Q)) ls st h hB
def bX9_closing_26 (l : Launch) (E : Ev) (d : Nat) (Q : Option Value → Hp → Prop) : Kt := k_iload 4 (k_push (.int 1) (k_aload 0 (k_getR 9 55 3 (k_push (.int 0) (k_iaload (k_ishl (k_icmp_ge (k_iinc 3 1 (Go l E YX9_closing (d + 1) 0 0 Q 0 0 13)) (k_iload 4 (k_callS l E YX9_bits d 0 0 1 (k_iload 3 (k_icmp_ne (k_iinc 4 1 (Go l E YX9_closing (d + 1) 0 0 Q 0 0 26)) (k_aload 0 (k_iload 4 (k_callV l E 9 55 YX9_isClosing d 0 0 1 (k_if_eq (k_iinc 4 1 (Go l E YX9_closing (d + 1) 0 0 Q 0 0 26)) (k_iload 2 (k_iload 1 (k_icmp_ne (k_iinc 2 1 (k_iinc 4 1 (Go l E YX9_closing (d + 1) 0 0 Q 0 0 26))) (k_iload 4 (k_iret .int Q))))))))))))))))))))
set_option maxRecDepth 100000 in
set_option maxHeartbeats 4000000 in
theorem gX9_closing_26 {l : Launch} {E : Ev} {d : Nat} {Q : Option Value → Hp → Prop} {ls : Lv} {st : List Value} {h : Hp} (hB : bX9_closing_26 l E d Q ls st h) : Go l E YX9_closing (d + 1) 0 0 Q 0 0 26 ls st h :=
  (sd_iload (n := 4) dX9_closing_26 (sd_iconst (v := 1) (by decide) dX9_closing_28 (sd_aload_n (i := 0) rfl dX9_closing_29 (sd_getR clsX9 (f := 3) (by decide) (fun _ _ _ => rfl) mw_1181 dX9_closing_30 (sd_iconst (v := 0) (by decide) dX9_closing_33 (sd_iaload dX9_closing_34 (sd_ishl dX9_closing_35 (sd_icmp_ge (tgt := 74) (by decide) dX9_closing_36 (sd_iinc (i := 3) (v := 1) (by decide) (by decide) dX9_closing_74 (sd_goto (tgt := 13) (by decide) dX9_closing_77 (Sd.go))) (sd_iload (n := 4) dX9_closing_39 (sd_callS (Y' := YX9_bits) (mc' := 0) (ms' := 0) (n := 1) mw_1694 mw_1695 mw_108 mw_1696 (okmX9_bits) (by decide) (Nat.le_refl _) (by decide) (by decide) dX9_closing_41 (sd_iload_n (i := 3) rfl dX9_closing_44 (sd_icmp_ne (tgt := 68) (by decide) dX9_closing_45 (sd_iinc (i := 4) (v := 1) (by decide) (by decide) dX9_closing_68 (sd_goto (tgt := 26) (by decide) dX9_closing_71 (Sd.go))) (sd_aload_n (i := 0) rfl dX9_closing_48 (sd_iload (n := 4) dX9_closing_49 (sd_callV (Y' := YX9_isClosing) (mc' := 0) (ms' := 0) (n := 1) clsX9.1 mw_1697 mw_1699 mw_92 mw_108 mw_1700 rfl (okmX9_isClosing) (by decide) (Nat.le_refl _) (by decide) (by decide) dX9_closing_51 (sd_if_eq (tgt := 68) (by decide) dX9_closing_54 (sd_iinc (i := 4) (v := 1) (by decide) (by decide) dX9_closing_68 (sd_goto (tgt := 26) (by decide) dX9_closing_71 (Sd.go))) (sd_iload_n (i := 2) rfl dX9_closing_57 (sd_iload_n (i := 1) rfl dX9_closing_58 (sd_icmp_ne (tgt := 65) (by decide) dX9_closing_59 (sd_iinc (i := 2) (v := 1) (by decide) (by decide) dX9_closing_65 (sd_iinc (i := 4) (v := 1) (by decide) (by decide) dX9_closing_68 (sd_goto (tgt := 26) (by decide) dX9_closing_71 (Sd.go)))) (sd_iload (n := 4) dX9_closing_62 (sd_iret (ty := .int) rfl (by decide) (by decide) dX9_closing_64)))))))))))))))))))) : Sd l E YX9_closing (d + 1) 0 0 Q 0 0 26 (bX9_closing_26 l E d Q)) ls st h hB
theorem eX9_closing {l : Launch} {E : Ev} {d : Nat} {Q : Option Value → Hp → Prop} {h : Hp} {a0 : Nat} {x1 : Int32} (hk : Go l E YX9_closing d 0 0 Q 0 0 0 [some (.ref a0), some (.int x1), none, none, none] [] h) : GoM l E YX9_closing d 0 0 [.ref a0, .int x1] h Q := GoM.of (by decide +kernel) rfl (by simp [entA, YX9_closing]) hk
theorem dX9_shutBy_0 : decode cX9_shutBy 0 = .ok (.iconst 0, 1) := by decide +kernel
theorem dX9_shutBy_1 : decode cX9_shutBy 1 = .ok (.istore_n 2, 1) := by decide +kernel
theorem dX9_shutBy_2 : decode cX9_shutBy 2 = .ok (.iload_n 2, 1) := by decide +kernel
theorem dX9_shutBy_3 : decode cX9_shutBy 3 = .ok (.iload_n 1, 1) := by decide +kernel
theorem dX9_shutBy_4 : decode cX9_shutBy 4 = .ok (.if_icmp .gt 47, 3) := by decide +kernel
theorem dX9_shutBy_7 : decode cX9_shutBy 7 = .ok (.iconst 0, 1) := by decide +kernel
theorem dX9_shutBy_8 : decode cX9_shutBy 8 = .ok (.istore_n 3, 1) := by decide +kernel
theorem dX9_shutBy_9 : decode cX9_shutBy 9 = .ok (.iload_n 3, 1) := by decide +kernel
theorem dX9_shutBy_10 : decode cX9_shutBy 10 = .ok (.iconst 1, 1) := by decide +kernel
theorem dX9_shutBy_11 : decode cX9_shutBy 11 = .ok (.aload_n 0, 1) := by decide +kernel
theorem dX9_shutBy_12 : decode cX9_shutBy 12 = .ok (.getfield 13, 3) := by decide +kernel
theorem dX9_shutBy_15 : decode cX9_shutBy 15 = .ok (.iconst 0, 1) := by decide +kernel
theorem dX9_shutBy_16 : decode cX9_shutBy 16 = .ok (.iaload, 1) := by decide +kernel
theorem dX9_shutBy_17 : decode cX9_shutBy 17 = .ok (.ishl, 1) := by decide +kernel
theorem dX9_shutBy_18 : decode cX9_shutBy 18 = .ok (.if_icmp .ge 27, 3) := by decide +kernel
theorem dX9_shutBy_21 : decode cX9_shutBy 21 = .ok (.iload_n 3, 1) := by decide +kernel
theorem dX9_shutBy_22 : decode cX9_shutBy 22 = .ok (.invokestatic 423, 3) := by decide +kernel
theorem dX9_shutBy_25 : decode cX9_shutBy 25 = .ok (.iload_n 2, 1) := by decide +kernel
theorem dX9_shutBy_26 : decode cX9_shutBy 26 = .ok (.if_icmp .ne 13, 3) := by decide +kernel
theorem dX9_shutBy_29 : decode cX9_shutBy 29 = .ok (.aload_n 0, 1) := by decide +kernel
theorem dX9_shutBy_30 : decode cX9_shutBy 30 = .ok (.iload_n 3, 1) := by decide +kernel
theorem dX9_shutBy_31 : decode cX9_shutBy 31 = .ok (.invokevirtual 420, 3) := by decide +kernel
theorem dX9_shutBy_34 : decode cX9_shutBy 34 = .ok (.ifCond .eq 5, 3) := by decide +kernel
theorem dX9_shutBy_37 : decode cX9_shutBy 37 = .ok (.iload_n 3, 1) := by decide +kernel
theorem dX9_shutBy_38 : decode cX9_shutBy 38 = .ok (.ireturn, 1) := by decide +kernel
theorem dX9_shutBy_39 : decode cX9_shutBy 39 = .ok (.iinc 3 1, 3) := by decide +kernel
theorem dX9_shutBy_42 : decode cX9_shutBy 42 = .ok (.goto (-33), 3) := by decide +kernel
theorem dX9_shutBy_45 : decode cX9_shutBy 45 = .ok (.iinc 2 1, 3) := by decide +kernel
theorem dX9_shutBy_48 : decode cX9_shutBy 48 = .ok (.goto (-46), 3) := by decide +kernel
theorem dX9_shutBy_51 : decode cX9_shutBy 51 = .ok (.iconst (-1), 1) := by decide +kernel
theorem dX9_shutBy_52 : decode cX9_shutBy 52 = .ok (.ireturn, 1) := by decide +kernel
def bX9_shutBy_0 (l : Launch) (E : Ev) (d : Nat) (Q : Option Value → Hp → Prop) : Kt := k_push (.int 0) (k_istore 2 (Go l E YX9_shutBy (d + 1) 0 0 Q 0 0 2))
set_option maxRecDepth 100000 in
set_option maxHeartbeats 4000000 in
theorem gX9_shutBy_0 {l : Launch} {E : Ev} {d : Nat} {Q : Option Value → Hp → Prop} {ls : Lv} {st : List Value} {h : Hp} (hB : bX9_shutBy_0 l E d Q ls st h) : Go l E YX9_shutBy (d + 1) 0 0 Q 0 0 0 ls st h :=
  (sd_iconst (v := 0) (by decide) dX9_shutBy_0 (sd_istore_n (i := 2) rfl (by decide) dX9_shutBy_1 (Sd.go)) : Sd l E YX9_shutBy (d + 1) 0 0 Q 0 0 0 (bX9_shutBy_0 l E d Q)) ls st h hB
def bX9_shutBy_2 (l : Launch) (E : Ev) (d : Nat) (Q : Option Value → Hp → Prop) : Kt := k_iload 2 (k_iload 1 (k_icmp_gt (k_push (.int (-1)) (k_iret .int Q)) (k_push (.int 0) (k_istore 3 (Go l E YX9_shutBy (d + 1) 0 0 Q 0 0 9)))))
set_option maxRecDepth 100000 in
set_option maxHeartbeats 4000000 in
theorem gX9_shutBy_2 {l : Launch} {E : Ev} {d : Nat} {Q : Option Value → Hp → Prop} {ls : Lv} {st : List Value} {h : Hp} (hB : bX9_shutBy_2 l E d Q ls st h) : Go l E YX9_shutBy (d + 1) 0 0 Q 0 0 2 ls st h :=
  (sd_iload_n (i := 2) rfl dX9_shutBy_2 (sd_iload_n (i := 1) rfl dX9_shutBy_3 (sd_icmp_gt (tgt := 51) (by decide) dX9_shutBy_4 (sd_iconst (v := (-1)) (by decide) dX9_shutBy_51 (sd_iret (ty := .int) rfl (by decide) (by decide) dX9_shutBy_52)) (sd_iconst (v := 0) (by decide) dX9_shutBy_7 (sd_istore_n (i := 3) rfl (by decide) dX9_shutBy_8 (Sd.go))))) : Sd l E YX9_shutBy (d + 1) 0 0 Q 0 0 2 (bX9_shutBy_2 l E d Q)) ls st h hB
def bX9_shutBy_9 (l : Launch) (E : Ev) (d : Nat) (Q : Option Value → Hp → Prop) : Kt := k_iload 3 (k_push (.int 1) (k_aload 0 (k_getR 9 55 3 (k_push (.int 0) (k_iaload (k_ishl (k_icmp_ge (k_iinc 2 1 (Go l E YX9_shutBy (d + 1) 0 0 Q 0 0 2)) (k_iload 3 (k_callS l E YX9_bits d 0 0 1 (k_iload 2 (k_icmp_ne (k_iinc 3 1 (Go l E YX9_shutBy (d + 1) 0 0 Q 0 0 9)) (k_aload 0 (k_iload 3 (k_callV l E 9 55 YX9_isShut d 0 0 1 (k_if_eq (k_iinc 3 1 (Go l E YX9_shutBy (d + 1) 0 0 Q 0 0 9)) (k_iload 3 (k_iret .int Q)))))))))))))))))
set_option maxRecDepth 100000 in
set_option maxHeartbeats 4000000 in
theorem gX9_shutBy_9 {l : Launch} {E : Ev} {d : Nat} {Q : Option Value → Hp → Prop} {ls : Lv} {st : List Value} {h : Hp} (hB : bX9_shutBy_9 l E d Q ls st h) : Go l E YX9_shutBy (d + 1) 0 0 Q 0 0 9 ls st h :=
  (sd_iload_n (i := 3) rfl dX9_shutBy_9 (sd_iconst (v := 1) (by decide) dX9_shutBy_10 (sd_aload_n (i := 0) rfl dX9_shutBy_11 (sd_getR clsX9 (f := 3) (by decide) (fun _ _ _ => rfl) mw_1181 dX9_shutBy_12 (sd_iconst (v := 0) (by decide) dX9_shutBy_15 (sd_iaload dX9_shutBy_16 (sd_ishl dX9_shutBy_17 (sd_icmp_ge (tgt := 45) (by decide) dX9_shutBy_18 (sd_iinc (i := 2) (v := 1) (by decide) (by decide) dX9_shutBy_45 (sd_goto (tgt := 2) (by decide) dX9_shutBy_48 (Sd.go))) (sd_iload_n (i := 3) rfl dX9_shutBy_21 (sd_callS (Y' := YX9_bits) (mc' := 0) (ms' := 0) (n := 1) mw_1694 mw_1695 mw_108 mw_1696 (okmX9_bits) (by decide) (Nat.le_refl _) (by decide) (by decide) dX9_shutBy_22 (sd_iload_n (i := 2) rfl dX9_shutBy_25 (sd_icmp_ne (tgt := 39) (by decide) dX9_shutBy_26 (sd_iinc (i := 3) (v := 1) (by decide) (by decide) dX9_shutBy_39 (sd_goto (tgt := 9) (by decide) dX9_shutBy_42 (Sd.go))) (sd_aload_n (i := 0) rfl dX9_shutBy_29 (sd_iload_n (i := 3) rfl dX9_shutBy_30 (sd_callV (Y' := YX9_isShut) (mc' := 0) (ms' := 0) (n := 1) clsX9.1 mw_1686 mw_1688 mw_91 mw_108 mw_1689 rfl (okmX9_isShut) (by decide) (Nat.le_refl _) (by decide) (by decide) dX9_shutBy_31 (sd_if_eq (tgt := 39) (by decide) dX9_shutBy_34 (sd_iinc (i := 3) (v := 1) (by decide) (by decide) dX9_shutBy_39 (sd_goto (tgt := 9) (by decide) dX9_shutBy_42 (Sd.go))) (sd_iload_n (i := 3) rfl dX9_shutBy_37 (sd_iret (ty := .int) rfl (by decide) (by decide) dX9_shutBy_38))))))))))))))))) : Sd l E YX9_shutBy (d + 1) 0 0 Q 0 0 9 (bX9_shutBy_9 l E d Q)) ls st h hB
theorem eX9_shutBy {l : Launch} {E : Ev} {d : Nat} {Q : Option Value → Hp → Prop} {h : Hp} {a0 : Nat} {x1 : Int32} (hk : Go l E YX9_shutBy d 0 0 Q 0 0 0 [some (.ref a0), some (.int x1), none, none] [] h) : GoM l E YX9_shutBy d 0 0 [.ref a0, .int x1] h Q := GoM.of (by decide +kernel) rfl (by simp [entA, YX9_shutBy]) hk
theorem dX9_safe_0 : decode cX9_safe 0 = .ok (.aload_n 0, 1) := by decide +kernel
theorem dX9_safe_1 : decode cX9_safe 1 = .ok (.iconst 0, 1) := by decide +kernel
theorem dX9_safe_2 : decode cX9_safe 2 = .ok (.putfield 123, 3) := by decide +kernel
theorem dX9_safe_5 : decode cX9_safe 5 = .ok (.iload_n 1, 1) := by decide +kernel
theorem dX9_safe_6 : decode cX9_safe 6 = .ok (.i2l, 1) := by decide +kernel
theorem dX9_safe_7 : decode cX9_safe 7 = .ok (.lconst 0, 1) := by decide +kernel
theorem dX9_safe_8 : decode cX9_safe 8 = .ok (.ldc2_w 429, 3) := by decide +kernel
theorem dX9_safe_11 : decode cX9_safe 11 = .ok (.invokestatic 133, 3) := by decide +kernel
theorem dX9_safe_14 : decode cX9_safe 14 = .ok (.ifCond .ne 5, 3) := by decide +kernel
theorem dX9_safe_17 : decode cX9_safe 17 = .ok (.iconst (-1), 1) := by decide +kernel
theorem dX9_safe_18 : decode cX9_safe 18 = .ok (.ireturn, 1) := by decide +kernel
theorem dX9_safe_19 : decode cX9_safe 19 = .ok (.aload_n 0, 1) := by decide +kernel
theorem dX9_safe_20 : decode cX9_safe 20 = .ok (.invokevirtual 417, 3) := by decide +kernel
theorem dX9_safe_23 : decode cX9_safe 23 = .ok (.aload_n 0, 1) := by decide +kernel
theorem dX9_safe_24 : decode cX9_safe 24 = .ok (.iload_n 1, 1) := by decide +kernel
theorem dX9_safe_25 : decode cX9_safe 25 = .ok (.invokevirtual 431, 3) := by decide +kernel
theorem dX9_safe_28 : decode cX9_safe 28 = .ok (.iconst (-1), 1) := by decide +kernel
theorem dX9_safe_29 : decode cX9_safe 29 = .ok (.if_icmp .ne 7, 3) := by decide +kernel
theorem dX9_safe_32 : decode cX9_safe 32 = .ok (.iconst 1, 1) := by decide +kernel
theorem dX9_safe_33 : decode cX9_safe 33 = .ok (.goto 4, 3) := by decide +kernel
theorem dX9_safe_36 : decode cX9_safe 36 = .ok (.iconst 0, 1) := by decide +kernel
theorem dX9_safe_37 : decode cX9_safe 37 = .ok (.ireturn, 1) := by decide +kernel
def bX9_safe_0 (l : Launch) (E : Ev) (d : Nat) (Q : Option Value → Hp → Prop) : Kt := k_aload 0 (k_push (.int 0) (k_putI 9 55 0 (k_iload 1 (k_i2l (k_push (.long 0) (k_push (.long 8) (k_callS l E YX9_in d 0 0 3 (k_if_ne (k_aload 0 (k_callV l E 9 55 YX9_layPlays d 0 0 0 (k_aload 0 (k_iload 1 (k_callV l E 9 55 YX9_shutBy d 0 0 1 (k_push (.int (-1)) (k_icmp_ne (k_push (.int 0) (k_iret .int Q)) (k_push (.int 1) (k_iret .int Q))))))))) (k_push (.int (-1)) (k_iret .int Q))))))))))
set_option maxRecDepth 100000 in
set_option maxHeartbeats 4000000 in
theorem gX9_safe_0 {l : Launch} {E : Ev} {d : Nat} {Q : Option Value → Hp → Prop} {ls : Lv} {st : List Value} {h : Hp} (hB : bX9_safe_0 l E d Q ls st h) : Go l E YX9_safe (d + 1) 0 0 Q 0 0 0 ls st h :=
  (sd_aload_n (i := 0) rfl dX9_safe_0 (sd_iconst (v := 0) (by decide) dX9_safe_1 (sd_putI clsX9 (f := 0) (by decide) (fun _ _ _ => rfl) rfl (Or.inl rfl) mw_1178 dX9_safe_2 (sd_iload_n (i := 1) rfl dX9_safe_5 (sd_i2l dX9_safe_6 (sd_lconst (v := 0) (by decide) dX9_safe_7 (sd_ldc2 (v := 8) mw_1705 dX9_safe_8 (sd_callS (Y' := YX9_in) (mc' := 0) (ms' := 0) (n := 3) mw_1348 mw_1349 mw_108 mw_1350 (okmX9_in) (by decide) (Nat.le_refl _) (by decide) (by decide) dX9_safe_11 (sd_if_ne (tgt := 19) (by decide) dX9_safe_14 (sd_aload_n (i := 0) rfl dX9_safe_19 (sd_callV (Y' := YX9_layPlays) (mc' := 0) (ms' := 0) (n := 0) clsX9.1 mw_1674 mw_1676 mw_88 mw_108 mw_1677 rfl (okmX9_layPlays) (by decide) (Nat.le_refl _) (by decide) (by decide) dX9_safe_20 (sd_aload_n (i := 0) rfl dX9_safe_23 (sd_iload_n (i := 1) rfl dX9_safe_24 (sd_callV (Y' := YX9_shutBy) (mc' := 0) (ms' := 0) (n := 1) clsX9.1 mw_1706 mw_1708 mw_93 mw_108 mw_1709 rfl (okmX9_shutBy) (by decide) (Nat.le_refl _) (by decide) (by decide) dX9_safe_25 (sd_iconst (v := (-1)) (by decide) dX9_safe_28 (sd_icmp_ne (tgt := 36) (by decide) dX9_safe_29 (sd_iconst (v := 0) (by decide) dX9_safe_36 (sd_iret (ty := .int) rfl (by decide) (by decide) dX9_safe_37)) (sd_iconst (v := 1) (by decide) dX9_safe_32 (sd_goto (tgt := 37) (by decide) dX9_safe_33 (sd_iret (ty := .int) rfl (by decide) (by decide) dX9_safe_37)))))))))) (sd_iconst (v := (-1)) (by decide) dX9_safe_17 (sd_iret (ty := .int) rfl (by decide) (by decide) dX9_safe_18)))))))))) : Sd l E YX9_safe (d + 1) 0 0 Q 0 0 0 (bX9_safe_0 l E d Q)) ls st h hB
theorem eX9_safe {l : Launch} {E : Ev} {d : Nat} {Q : Option Value → Hp → Prop} {h : Hp} {a0 : Nat} {x1 : Int32} (hk : Go l E YX9_safe d 0 0 Q 0 0 0 [some (.ref a0), some (.int x1)] [] h) : GoM l E YX9_safe d 0 0 [.ref a0, .int x1] h Q := GoM.of (by decide +kernel) rfl (by simp [entA, YX9_safe]) hk
theorem dX9_unsf_0 : decode cX9_unsf 0 = .ok (.aload_n 0, 1) := by decide +kernel
theorem dX9_unsf_1 : decode cX9_unsf 1 = .ok (.iconst 0, 1) := by decide +kernel
theorem dX9_unsf_2 : decode cX9_unsf 2 = .ok (.putfield 123, 3) := by decide +kernel
theorem dX9_unsf_5 : decode cX9_unsf 5 = .ok (.iload_n 1, 1) := by decide +kernel
theorem dX9_unsf_6 : decode cX9_unsf 6 = .ok (.i2l, 1) := by decide +kernel
theorem dX9_unsf_7 : decode cX9_unsf 7 = .ok (.lconst 0, 1) := by decide +kernel
theorem dX9_unsf_8 : decode cX9_unsf 8 = .ok (.ldc2_w 429, 3) := by decide +kernel
theorem dX9_unsf_11 : decode cX9_unsf 11 = .ok (.invokestatic 133, 3) := by decide +kernel
theorem dX9_unsf_14 : decode cX9_unsf 14 = .ok (.ifCond .ne 5, 3) := by decide +kernel
theorem dX9_unsf_17 : decode cX9_unsf 17 = .ok (.iconst (-1), 1) := by decide +kernel
theorem dX9_unsf_18 : decode cX9_unsf 18 = .ok (.ireturn, 1) := by decide +kernel
theorem dX9_unsf_19 : decode cX9_unsf 19 = .ok (.aload_n 0, 1) := by decide +kernel
theorem dX9_unsf_20 : decode cX9_unsf 20 = .ok (.invokevirtual 417, 3) := by decide +kernel
theorem dX9_unsf_23 : decode cX9_unsf 23 = .ok (.aload_n 0, 1) := by decide +kernel
theorem dX9_unsf_24 : decode cX9_unsf 24 = .ok (.iload_n 1, 1) := by decide +kernel
theorem dX9_unsf_25 : decode cX9_unsf 25 = .ok (.invokevirtual 431, 3) := by decide +kernel
theorem dX9_unsf_28 : decode cX9_unsf 28 = .ok (.ireturn, 1) := by decide +kernel
def bX9_unsf_0 (l : Launch) (E : Ev) (d : Nat) (Q : Option Value → Hp → Prop) : Kt := k_aload 0 (k_push (.int 0) (k_putI 9 55 0 (k_iload 1 (k_i2l (k_push (.long 0) (k_push (.long 8) (k_callS l E YX9_in d 0 0 3 (k_if_ne (k_aload 0 (k_callV l E 9 55 YX9_layPlays d 0 0 0 (k_aload 0 (k_iload 1 (k_callV l E 9 55 YX9_shutBy d 0 0 1 (k_iret .int Q)))))) (k_push (.int (-1)) (k_iret .int Q))))))))))
set_option maxRecDepth 100000 in
set_option maxHeartbeats 4000000 in
theorem gX9_unsf_0 {l : Launch} {E : Ev} {d : Nat} {Q : Option Value → Hp → Prop} {ls : Lv} {st : List Value} {h : Hp} (hB : bX9_unsf_0 l E d Q ls st h) : Go l E YX9_unsf (d + 1) 0 0 Q 0 0 0 ls st h :=
  (sd_aload_n (i := 0) rfl dX9_unsf_0 (sd_iconst (v := 0) (by decide) dX9_unsf_1 (sd_putI clsX9 (f := 0) (by decide) (fun _ _ _ => rfl) rfl (Or.inl rfl) mw_1178 dX9_unsf_2 (sd_iload_n (i := 1) rfl dX9_unsf_5 (sd_i2l dX9_unsf_6 (sd_lconst (v := 0) (by decide) dX9_unsf_7 (sd_ldc2 (v := 8) mw_1705 dX9_unsf_8 (sd_callS (Y' := YX9_in) (mc' := 0) (ms' := 0) (n := 3) mw_1348 mw_1349 mw_108 mw_1350 (okmX9_in) (by decide) (Nat.le_refl _) (by decide) (by decide) dX9_unsf_11 (sd_if_ne (tgt := 19) (by decide) dX9_unsf_14 (sd_aload_n (i := 0) rfl dX9_unsf_19 (sd_callV (Y' := YX9_layPlays) (mc' := 0) (ms' := 0) (n := 0) clsX9.1 mw_1674 mw_1676 mw_88 mw_108 mw_1677 rfl (okmX9_layPlays) (by decide) (Nat.le_refl _) (by decide) (by decide) dX9_unsf_20 (sd_aload_n (i := 0) rfl dX9_unsf_23 (sd_iload_n (i := 1) rfl dX9_unsf_24 (sd_callV (Y' := YX9_shutBy) (mc' := 0) (ms' := 0) (n := 1) clsX9.1 mw_1706 mw_1708 mw_93 mw_108 mw_1709 rfl (okmX9_shutBy) (by decide) (Nat.le_refl _) (by decide) (by decide) dX9_unsf_25 (sd_iret (ty := .int) rfl (by decide) (by decide) dX9_unsf_28)))))) (sd_iconst (v := (-1)) (by decide) dX9_unsf_17 (sd_iret (ty := .int) rfl (by decide) (by decide) dX9_unsf_18)))))))))) : Sd l E YX9_unsf (d + 1) 0 0 Q 0 0 0 (bX9_unsf_0 l E d Q)) ls st h hB
theorem eX9_unsf {l : Launch} {E : Ev} {d : Nat} {Q : Option Value → Hp → Prop} {h : Hp} {a0 : Nat} {x1 : Int32} (hk : Go l E YX9_unsf d 0 0 Q 0 0 0 [some (.ref a0), some (.int x1)] [] h) : GoM l E YX9_unsf d 0 0 [.ref a0, .int x1] h Q := GoM.of (by decide +kernel) rfl (by simp [entA, YX9_unsf]) hk
theorem dX9_most_0 : decode cX9_most 0 = .ok (.aload_n 0, 1) := by decide +kernel
theorem dX9_most_1 : decode cX9_most 1 = .ok (.iconst 0, 1) := by decide +kernel
theorem dX9_most_2 : decode cX9_most 2 = .ok (.putfield 123, 3) := by decide +kernel
theorem dX9_most_5 : decode cX9_most 5 = .ok (.aload_n 0, 1) := by decide +kernel
theorem dX9_most_6 : decode cX9_most 6 = .ok (.invokevirtual 417, 3) := by decide +kernel
theorem dX9_most_9 : decode cX9_most 9 = .ok (.iconst (-1), 1) := by decide +kernel
theorem dX9_most_10 : decode cX9_most 10 = .ok (.istore_n 1, 1) := by decide +kernel
theorem dX9_most_11 : decode cX9_most 11 = .ok (.iconst 0, 1) := by decide +kernel
theorem dX9_most_12 : decode cX9_most 12 = .ok (.istore_n 2, 1) := by decide +kernel
theorem dX9_most_13 : decode cX9_most 13 = .ok (.iload_n 2, 1) := by decide +kernel
theorem dX9_most_14 : decode cX9_most 14 = .ok (.bipush 8, 2) := by decide +kernel
theorem dX9_most_16 : decode cX9_most 16 = .ok (.if_icmp .gt 24, 3) := by decide +kernel
theorem dX9_most_19 : decode cX9_most 19 = .ok (.aload_n 0, 1) := by decide +kernel
theorem dX9_most_20 : decode cX9_most 20 = .ok (.iload_n 2, 1) := by decide +kernel
theorem dX9_most_21 : decode cX9_most 21 = .ok (.invokevirtual 431, 3) := by decide +kernel
theorem dX9_most_24 : decode cX9_most 24 = .ok (.iconst (-1), 1) := by decide +kernel
theorem dX9_most_25 : decode cX9_most 25 = .ok (.if_icmp .ne 7, 3) := by decide +kernel
theorem dX9_most_28 : decode cX9_most 28 = .ok (.iload_n 2, 1) := by decide +kernel
theorem dX9_most_29 : decode cX9_most 29 = .ok (.goto 4, 3) := by decide +kernel
theorem dX9_most_32 : decode cX9_most 32 = .ok (.iload_n 1, 1) := by decide +kernel
theorem dX9_most_33 : decode cX9_most 33 = .ok (.istore_n 1, 1) := by decide +kernel
theorem dX9_most_34 : decode cX9_most 34 = .ok (.iinc 2 1, 3) := by decide +kernel
theorem dX9_most_37 : decode cX9_most 37 = .ok (.goto (-24), 3) := by decide +kernel
theorem dX9_most_40 : decode cX9_most 40 = .ok (.iload_n 1, 1) := by decide +kernel
theorem dX9_most_41 : decode cX9_most 41 = .ok (.ireturn, 1) := by decide +kernel
def bX9_most_0 (l : Launch) (E : Ev) (d : Nat) (Q : Option Value → Hp → Prop) : Kt := k_aload 0 (k_push (.int 0) (k_putI 9 55 0 (k_aload 0 (k_callV l E 9 55 YX9_layPlays d 0 0 0 (k_push (.int (-1)) (k_istore 1 (k_push (.int 0) (k_istore 2 (Go l E YX9_most (d + 1) 0 0 Q 0 0 13)))))))))
set_option maxRecDepth 100000 in
set_option maxHeartbeats 4000000 in
theorem gX9_most_0 {l : Launch} {E : Ev} {d : Nat} {Q : Option Value → Hp → Prop} {ls : Lv} {st : List Value} {h : Hp} (hB : bX9_most_0 l E d Q ls st h) : Go l E YX9_most (d + 1) 0 0 Q 0 0 0 ls st h :=
  (sd_aload_n (i := 0) rfl dX9_most_0 (sd_iconst (v := 0) (by decide) dX9_most_1 (sd_putI clsX9 (f := 0) (by decide) (fun _ _ _ => rfl) rfl (Or.inl rfl) mw_1178 dX9_most_2 (sd_aload_n (i := 0) rfl dX9_most_5 (sd_callV (Y' := YX9_layPlays) (mc' := 0) (ms' := 0) (n := 0) clsX9.1 mw_1674 mw_1676 mw_88 mw_108 mw_1677 rfl (okmX9_layPlays) (by decide) (Nat.le_refl _) (by decide) (by decide) dX9_most_6 (sd_iconst (v := (-1)) (by decide) dX9_most_9 (sd_istore_n (i := 1) rfl (by decide) dX9_most_10 (sd_iconst (v := 0) (by decide) dX9_most_11 (sd_istore_n (i := 2) rfl (by decide) dX9_most_12 (Sd.go))))))))) : Sd l E YX9_most (d + 1) 0 0 Q 0 0 0 (bX9_most_0 l E d Q)) ls st h hB
def bX9_most_13 (l : Launch) (E : Ev) (d : Nat) (Q : Option Value → Hp → Prop) : Kt := k_iload 2 (k_push (.int 8) (k_icmp_gt (k_iload 1 (k_iret .int Q)) (k_aload 0 (k_iload 2 (k_callV l E 9 55 YX9_shutBy d 0 0 1 (k_push (.int (-1)) (k_icmp_ne (k_iload 1 (k_istore 1 (k_iinc 2 1 (Go l E YX9_most (d + 1) 0 0 Q 0 0 13)))) (k_iload 2 (k_istore 1 (k_iinc 2 1 (Go l E YX9_most (d + 1) 0 0 Q 0 0 13)))))))))))
set_option maxRecDepth 100000 in
set_option maxHeartbeats 4000000 in
theorem gX9_most_13 {l : Launch} {E : Ev} {d : Nat} {Q : Option Value → Hp → Prop} {ls : Lv} {st : List Value} {h : Hp} (hB : bX9_most_13 l E d Q ls st h) : Go l E YX9_most (d + 1) 0 0 Q 0 0 13 ls st h :=
  (sd_iload_n (i := 2) rfl dX9_most_13 (sd_bipush (v := 8) (by decide) dX9_most_14 (sd_icmp_gt (tgt := 40) (by decide) dX9_most_16 (sd_iload_n (i := 1) rfl dX9_most_40 (sd_iret (ty := .int) rfl (by decide) (by decide) dX9_most_41)) (sd_aload_n (i := 0) rfl dX9_most_19 (sd_iload_n (i := 2) rfl dX9_most_20 (sd_callV (Y' := YX9_shutBy) (mc' := 0) (ms' := 0) (n := 1) clsX9.1 mw_1706 mw_1708 mw_93 mw_108 mw_1709 rfl (okmX9_shutBy) (by decide) (Nat.le_refl _) (by decide) (by decide) dX9_most_21 (sd_iconst (v := (-1)) (by decide) dX9_most_24 (sd_icmp_ne (tgt := 32) (by decide) dX9_most_25 (sd_iload_n (i := 1) rfl dX9_most_32 (sd_istore_n (i := 1) rfl (by decide) dX9_most_33 (sd_iinc (i := 2) (v := 1) (by decide) (by decide) dX9_most_34 (sd_goto (tgt := 13) (by decide) dX9_most_37 (Sd.go))))) (sd_iload_n (i := 2) rfl dX9_most_28 (sd_goto (tgt := 33) (by decide) dX9_most_29 (sd_istore_n (i := 1) rfl (by decide) dX9_most_33 (sd_iinc (i := 2) (v := 1) (by decide) (by decide) dX9_most_34 (sd_goto (tgt := 13) (by decide) dX9_most_37 (Sd.go))))))))))))) : Sd l E YX9_most (d + 1) 0 0 Q 0 0 13 (bX9_most_13 l E d Q)) ls st h hB
theorem eX9_most {l : Launch} {E : Ev} {d : Nat} {Q : Option Value → Hp → Prop} {h : Hp} {a0 : Nat} (hk : Go l E YX9_most d 0 0 Q 0 0 0 [some (.ref a0), none, none] [] h) : GoM l E YX9_most d 0 0 [.ref a0] h Q := GoM.of (by decide +kernel) rfl (by simp [entA, YX9_most]) hk
theorem dX9_missed_0 : decode cX9_missed 0 = .ok (.aload_n 0, 1) := by decide +kernel
theorem dX9_missed_1 : decode cX9_missed 1 = .ok (.iconst 0, 1) := by decide +kernel
theorem dX9_missed_2 : decode cX9_missed 2 = .ok (.putfield 123, 3) := by decide +kernel
theorem dX9_missed_5 : decode cX9_missed 5 = .ok (.aload_n 0, 1) := by decide +kernel
theorem dX9_missed_6 : decode cX9_missed 6 = .ok (.iload_n 1, 1) := by decide +kernel
theorem dX9_missed_7 : decode cX9_missed 7 = .ok (.invokevirtual 155, 3) := by decide +kernel
theorem dX9_missed_10 : decode cX9_missed 10 = .ok (.ifCond .ne 5, 3) := by decide +kernel
theorem dX9_missed_13 : decode cX9_missed 13 = .ok (.iconst (-1), 1) := by decide +kernel
theorem dX9_missed_14 : decode cX9_missed 14 = .ok (.ireturn, 1) := by decide +kernel
theorem dX9_missed_15 : decode cX9_missed 15 = .ok (.aload_n 0, 1) := by decide +kernel
theorem dX9_missed_16 : decode cX9_missed 16 = .ok (.invokevirtual 396, 3) := by decide +kernel
theorem dX9_missed_19 : decode cX9_missed 19 = .ok (.aload_n 0, 1) := by decide +kernel
theorem dX9_missed_20 : decode cX9_missed 20 = .ok (.getfield 382, 3) := by decide +kernel
theorem dX9_missed_23 : decode cX9_missed 23 = .ok (.ifCond .ne 5, 3) := by decide +kernel
theorem dX9_missed_26 : decode cX9_missed 26 = .ok (.iconst (-1), 1) := by decide +kernel
theorem dX9_missed_27 : decode cX9_missed 27 = .ok (.ireturn, 1) := by decide +kernel
theorem dX9_missed_28 : decode cX9_missed 28 = .ok (.aload_n 0, 1) := by decide +kernel
theorem dX9_missed_29 : decode cX9_missed 29 = .ok (.getfield 13, 3) := by decide +kernel
theorem dX9_missed_32 : decode cX9_missed 32 = .ok (.iconst 4, 1) := by decide +kernel
theorem dX9_missed_33 : decode cX9_missed 33 = .ok (.iaload, 1) := by decide +kernel
theorem dX9_missed_34 : decode cX9_missed 34 = .ok (.iload_n 1, 1) := by decide +kernel
theorem dX9_missed_35 : decode cX9_missed 35 = .ok (.invokestatic 363, 3) := by decide +kernel
theorem dX9_missed_38 : decode cX9_missed 38 = .ok (.ifCond .eq 5, 3) := by decide +kernel
theorem dX9_missed_41 : decode cX9_missed 41 = .ok (.iconst 0, 1) := by decide +kernel
theorem dX9_missed_42 : decode cX9_missed 42 = .ok (.ireturn, 1) := by decide +kernel
theorem dX9_missed_43 : decode cX9_missed 43 = .ok (.aload_n 0, 1) := by decide +kernel
theorem dX9_missed_44 : decode cX9_missed 44 = .ok (.getfield 376, 3) := by decide +kernel
theorem dX9_missed_47 : decode cX9_missed 47 = .ok (.istore_n 2, 1) := by decide +kernel
theorem dX9_missed_48 : decode cX9_missed 48 = .ok (.aload_n 0, 1) := by decide +kernel
theorem dX9_missed_49 : decode cX9_missed 49 = .ok (.aload_n 0, 1) := by decide +kernel
theorem dX9_missed_50 : decode cX9_missed 50 = .ok (.getfield 13, 3) := by decide +kernel
theorem dX9_missed_53 : decode cX9_missed 53 = .ok (.iconst 4, 1) := by decide +kernel
theorem dX9_missed_54 : decode cX9_missed 54 = .ok (.iaload, 1) := by decide +kernel
theorem dX9_missed_55 : decode cX9_missed 55 = .ok (.iconst 1, 1) := by decide +kernel
theorem dX9_missed_56 : decode cX9_missed 56 = .ok (.iload_n 1, 1) := by decide +kernel
theorem dX9_missed_57 : decode cX9_missed 57 = .ok (.ishl, 1) := by decide +kernel
theorem dX9_missed_58 : decode cX9_missed 58 = .ok (.ior, 1) := by decide +kernel
theorem dX9_missed_59 : decode cX9_missed 59 = .ok (.invokevirtual 391, 3) := by decide +kernel
theorem dX9_missed_62 : decode cX9_missed 62 = .ok (.aload_n 0, 1) := by decide +kernel
theorem dX9_missed_63 : decode cX9_missed 63 = .ok (.getfield 382, 3) := by decide +kernel
theorem dX9_missed_66 : decode cX9_missed 66 = .ok (.ifCond .ne 9, 3) := by decide +kernel
theorem dX9_missed_69 : decode cX9_missed 69 = .ok (.sipush 1000, 3) := by decide +kernel
theorem dX9_missed_72 : decode cX9_missed 72 = .ok (.goto 9, 3) := by decide +kernel
theorem dX9_missed_75 : decode cX9_missed 75 = .ok (.aload_n 0, 1) := by decide +kernel
theorem dX9_missed_76 : decode cX9_missed 76 = .ok (.getfield 376, 3) := by decide +kernel
theorem dX9_missed_79 : decode cX9_missed 79 = .ok (.iload_n 2, 1) := by decide +kernel
theorem dX9_missed_80 : decode cX9_missed 80 = .ok (.isub, 1) := by decide +kernel
theorem dX9_missed_81 : decode cX9_missed 81 = .ok (.ireturn, 1) := by decide +kernel
def bX9_missed_0 (l : Launch) (E : Ev) (d : Nat) (Q : Option Value → Hp → Prop) : Kt := k_aload 0 (k_push (.int 0) (k_putI 9 55 0 (k_aload 0 (k_iload 1 (k_callV l E 9 55 YX9_isActor d 0 0 1 (k_if_ne (k_aload 0 (k_callV l E 9 55 YX9_lay d 0 0 0 (k_aload 0 (k_getI 9 55 43 (k_if_ne (k_aload 0 (k_getR 9 55 3 (k_push (.int 4) (k_iaload (k_iload 1 (k_callS l E YX9_is d 0 0 2 (k_if_eq (k_aload 0 (k_getI 9 55 41 (k_istore 2 (k_aload 0 (k_aload 0 (k_getR 9 55 3 (k_push (.int 4) (k_iaload (k_push (.int 1) (k_iload 1 (k_ishl (k_ior (k_callV l E 9 55 YX9_fill d 0 0 1 (k_aload 0 (k_getI 9 55 43 (k_if_ne (k_aload 0 (k_getI 9 55 41 (k_iload 2 (k_isub (k_iret .int Q))))) (k_push (.int 1000) (k_iret .int Q)))))))))))))))))) (k_push (.int 0) (k_iret .int Q))))))))) (k_push (.int (-1)) (k_iret .int Q))))))) (k_push (.int (-1)) (k_iret .int Q))))))))
set_option maxRecDepth 100000 in
set_option maxHeartbeats 4000000 in
theorem gX9_missed_0 {l : Launch} {E : Ev} {d : Nat} {Q : Option Value → Hp → Prop} {ls : Lv} {st : List Value} {h : Hp} (hB : bX9_missed_0 l E d Q ls st h) : Go l E YX9_missed (d + 1) 0 0 Q 0 0 0 ls st h :=
  (sd_aload_n (i := 0) rfl dX9_missed_0 (sd_iconst (v := 0) (by decide) dX9_missed_1 (sd_putI clsX9 (f := 0) (by decide) (fun _ _ _ => rfl) rfl (Or.inl rfl) mw_1178 dX9_missed_2 (sd_aload_n (i := 0) rfl dX9_missed_5 (sd_iload_n (i := 1) rfl dX9_missed_6 (sd_callV (Y' := YX9_isActor) (mc' := 0) (ms' := 0) (n := 1) clsX9.1 mw_1381 mw_1383 mw_46 mw_108 mw_1384 rfl (okmX9_isActor) (by decide) (Nat.le_refl _) (by decide) (by decide) dX9_missed_7 (sd_if_ne (tgt := 15) (by decide) dX9_missed_10 (sd_aload_n (i := 0) rfl dX9_missed_15 (sd_callV (Y' := YX9_lay) (mc' := 0) (ms' := 0) (n := 0) clsX9.1 mw_1590 mw_1592 mw_77 mw_108 mw_1593 rfl (okmX9_lay) (by decide) (Nat.le_refl _) (by decide) (by decide) dX9_missed_16 (sd_aload_n (i := 0) rfl dX9_missed_19 (sd_getI clsX9 (f := 43) (by decide) (fun _ _ _ => rfl) mw_1221 dX9_missed_20 (sd_if_ne (tgt := 28) (by decide) dX9_missed_23 (sd_aload_n (i := 0) rfl dX9_missed_28 (sd_getR clsX9 (f := 3) (by decide) (fun _ _ _ => rfl) mw_1181 dX9_missed_29 (sd_iconst (v := 4) (by decide) dX9_missed_32 (sd_iaload dX9_missed_33 (sd_iload_n (i := 1) rfl dX9_missed_34 (sd_callS (Y' := YX9_is) (mc' := 0) (ms' := 0) (n := 2) mw_1603 mw_1604 mw_108 mw_1605 (okmX9_is) (by decide) (Nat.le_refl _) (by decide) (by decide) dX9_missed_35 (sd_if_eq (tgt := 43) (by decide) dX9_missed_38 (sd_aload_n (i := 0) rfl dX9_missed_43 (sd_getI clsX9 (f := 41) (by decide) (fun _ _ _ => rfl) mw_1219 dX9_missed_44 (sd_istore_n (i := 2) rfl (by decide) dX9_missed_47 (sd_aload_n (i := 0) rfl dX9_missed_48 (sd_aload_n (i := 0) rfl dX9_missed_49 (sd_getR clsX9 (f := 3) (by decide) (fun _ _ _ => rfl) mw_1181 dX9_missed_50 (sd_iconst (v := 4) (by decide) dX9_missed_53 (sd_iaload dX9_missed_54 (sd_iconst (v := 1) (by decide) dX9_missed_55 (sd_iload_n (i := 1) rfl dX9_missed_56 (sd_ishl dX9_missed_57 (sd_ior dX9_missed_58 (sd_callV (Y' := YX9_fill) (mc' := 0) (ms' := 0) (n := 1) clsX9.1 mw_1598 mw_1600 mw_79 mw_108 mw_1601 rfl (okmX9_fill) (by decide) (Nat.le_refl _) (by decide) (by decide) dX9_missed_59 (sd_aload_n (i := 0) rfl dX9_missed_62 (sd_getI clsX9 (f := 43) (by decide) (fun _ _ _ => rfl) mw_1221 dX9_missed_63 (sd_if_ne (tgt := 75) (by decide) dX9_missed_66 (sd_aload_n (i := 0) rfl dX9_missed_75 (sd_getI clsX9 (f := 41) (by decide) (fun _ _ _ => rfl) mw_1219 dX9_missed_76 (sd_iload_n (i := 2) rfl dX9_missed_79 (sd_isub dX9_missed_80 (sd_iret (ty := .int) rfl (by decide) (by decide) dX9_missed_81))))) (sd_sipush (v := 1000) (by decide) dX9_missed_69 (sd_goto (tgt := 81) (by decide) dX9_missed_72 (sd_iret (ty := .int) rfl (by decide) (by decide) dX9_missed_81))))))))))))))))))) (sd_iconst (v := 0) (by decide) dX9_missed_41 (sd_iret (ty := .int) rfl (by decide) (by decide) dX9_missed_42))))))))) (sd_iconst (v := (-1)) (by decide) dX9_missed_26 (sd_iret (ty := .int) rfl (by decide) (by decide) dX9_missed_27))))))) (sd_iconst (v := (-1)) (by decide) dX9_missed_13 (sd_iret (ty := .int) rfl (by decide) (by decide) dX9_missed_14)))))))) : Sd l E YX9_missed (d + 1) 0 0 Q 0 0 0 (bX9_missed_0 l E d Q)) ls st h hB
theorem eX9_missed {l : Launch} {E : Ev} {d : Nat} {Q : Option Value → Hp → Prop} {h : Hp} {a0 : Nat} {x1 : Int32} (hk : Go l E YX9_missed d 0 0 Q 0 0 0 [some (.ref a0), some (.int x1), none] [] h) : GoM l E YX9_missed d 0 0 [.ref a0, .int x1] h Q := GoM.of (by decide +kernel) rfl (by simp [entA, YX9_missed]) hk
theorem dX9_key_0 : decode cX9_key 0 = .ok (.aload_n 0, 1) := by decide +kernel
theorem dX9_key_1 : decode cX9_key 1 = .ok (.iconst 0, 1) := by decide +kernel
theorem dX9_key_2 : decode cX9_key 2 = .ok (.putfield 123, 3) := by decide +kernel
theorem dX9_key_5 : decode cX9_key 5 = .ok (.aload_n 0, 1) := by decide +kernel
theorem dX9_key_6 : decode cX9_key 6 = .ok (.iload_n 1, 1) := by decide +kernel
theorem dX9_key_7 : decode cX9_key 7 = .ok (.invokevirtual 155, 3) := by decide +kernel
theorem dX9_key_10 : decode cX9_key 10 = .ok (.ifCond .ne 5, 3) := by decide +kernel
theorem dX9_key_13 : decode cX9_key 13 = .ok (.iconst (-1), 1) := by decide +kernel
theorem dX9_key_14 : decode cX9_key 14 = .ok (.ireturn, 1) := by decide +kernel
theorem dX9_key_15 : decode cX9_key 15 = .ok (.aload_n 0, 1) := by decide +kernel
theorem dX9_key_16 : decode cX9_key 16 = .ok (.invokevirtual 417, 3) := by decide +kernel
theorem dX9_key_19 : decode cX9_key 19 = .ok (.iconst 0, 1) := by decide +kernel
theorem dX9_key_20 : decode cX9_key 20 = .ok (.istore_n 2, 1) := by decide +kernel
theorem dX9_key_21 : decode cX9_key 21 = .ok (.iconst 0, 1) := by decide +kernel
theorem dX9_key_22 : decode cX9_key 22 = .ok (.istore_n 3, 1) := by decide +kernel
theorem dX9_key_23 : decode cX9_key 23 = .ok (.iload_n 3, 1) := by decide +kernel
theorem dX9_key_24 : decode cX9_key 24 = .ok (.iconst 1, 1) := by decide +kernel
theorem dX9_key_25 : decode cX9_key 25 = .ok (.aload_n 0, 1) := by decide +kernel
theorem dX9_key_26 : decode cX9_key 26 = .ok (.getfield 13, 3) := by decide +kernel
theorem dX9_key_29 : decode cX9_key 29 = .ok (.iconst 0, 1) := by decide +kernel
theorem dX9_key_30 : decode cX9_key 30 = .ok (.iaload, 1) := by decide +kernel
theorem dX9_key_31 : decode cX9_key 31 = .ok (.ishl, 1) := by decide +kernel
theorem dX9_key_32 : decode cX9_key 32 = .ok (.if_icmp .ge 45, 3) := by decide +kernel
theorem dX9_key_35 : decode cX9_key 35 = .ok (.iload_n 2, 1) := by decide +kernel
theorem dX9_key_36 : decode cX9_key 36 = .ok (.iload_n 3, 1) := by decide +kernel
theorem dX9_key_37 : decode cX9_key 37 = .ok (.iload_n 1, 1) := by decide +kernel
theorem dX9_key_38 : decode cX9_key 38 = .ok (.invokestatic 363, 3) := by decide +kernel
theorem dX9_key_41 : decode cX9_key 41 = .ok (.ifCond .ne 27, 3) := by decide +kernel
theorem dX9_key_44 : decode cX9_key 44 = .ok (.aload_n 0, 1) := by decide +kernel
theorem dX9_key_45 : decode cX9_key 45 = .ok (.iload_n 3, 1) := by decide +kernel
theorem dX9_key_46 : decode cX9_key 46 = .ok (.invokevirtual 420, 3) := by decide +kernel
theorem dX9_key_49 : decode cX9_key 49 = .ok (.ifCond .ne 19, 3) := by decide +kernel
theorem dX9_key_52 : decode cX9_key 52 = .ok (.aload_n 0, 1) := by decide +kernel
theorem dX9_key_53 : decode cX9_key 53 = .ok (.iload_n 3, 1) := by decide +kernel
theorem dX9_key_54 : decode cX9_key 54 = .ok (.iconst 1, 1) := by decide +kernel
theorem dX9_key_55 : decode cX9_key 55 = .ok (.iload_n 1, 1) := by decide +kernel
theorem dX9_key_56 : decode cX9_key 56 = .ok (.ishl, 1) := by decide +kernel
theorem dX9_key_57 : decode cX9_key 57 = .ok (.ior, 1) := by decide +kernel
theorem dX9_key_58 : decode cX9_key 58 = .ok (.invokevirtual 420, 3) := by decide +kernel
theorem dX9_key_61 : decode cX9_key 61 = .ok (.ifCond .eq 7, 3) := by decide +kernel
theorem dX9_key_64 : decode cX9_key 64 = .ok (.iconst 1, 1) := by decide +kernel
theorem dX9_key_65 : decode cX9_key 65 = .ok (.goto 4, 3) := by decide +kernel
theorem dX9_key_68 : decode cX9_key 68 = .ok (.iconst 0, 1) := by decide +kernel
theorem dX9_key_69 : decode cX9_key 69 = .ok (.iadd, 1) := by decide +kernel
theorem dX9_key_70 : decode cX9_key 70 = .ok (.istore_n 2, 1) := by decide +kernel
theorem dX9_key_71 : decode cX9_key 71 = .ok (.iinc 3 1, 3) := by decide +kernel
theorem dX9_key_74 : decode cX9_key 74 = .ok (.goto (-51), 3) := by decide +kernel
theorem dX9_key_77 : decode cX9_key 77 = .ok (.iload_n 2, 1) := by decide +kernel
theorem dX9_key_78 : decode cX9_key 78 = .ok (.ireturn, 1) := by decide +kernel
def bX9_key_0 (l : Launch) (E : Ev) (d : Nat) (Q : Option Value → Hp → Prop) : Kt := k_aload 0 (k_push (.int 0) (k_putI 9 55 0 (k_aload 0 (k_iload 1 (k_callV l E 9 55 YX9_isActor d 0 0 1 (k_if_ne (k_aload 0 (k_callV l E 9 55 YX9_layPlays d 0 0 0 (k_push (.int 0) (k_istore 2 (k_push (.int 0) (k_istore 3 (Go l E YX9_key (d + 1) 0 0 Q 0 0 23))))))) (k_push (.int (-1)) (k_iret .int Q))))))))
set_option maxRecDepth 100000 in
set_option maxHeartbeats 4000000 in
theorem gX9_key_0 {l : Launch} {E : Ev} {d : Nat} {Q : Option Value → Hp → Prop} {ls : Lv} {st : List Value} {h : Hp} (hB : bX9_key_0 l E d Q ls st h) : Go l E YX9_key (d + 1) 0 0 Q 0 0 0 ls st h :=
  (sd_aload_n (i := 0) rfl dX9_key_0 (sd_iconst (v := 0) (by decide) dX9_key_1 (sd_putI clsX9 (f := 0) (by decide) (fun _ _ _ => rfl) rfl (Or.inl rfl) mw_1178 dX9_key_2 (sd_aload_n (i := 0) rfl dX9_key_5 (sd_iload_n (i := 1) rfl dX9_key_6 (sd_callV (Y' := YX9_isActor) (mc' := 0) (ms' := 0) (n := 1) clsX9.1 mw_1381 mw_1383 mw_46 mw_108 mw_1384 rfl (okmX9_isActor) (by decide) (Nat.le_refl _) (by decide) (by decide) dX9_key_7 (sd_if_ne (tgt := 15) (by decide) dX9_key_10 (sd_aload_n (i := 0) rfl dX9_key_15 (sd_callV (Y' := YX9_layPlays) (mc' := 0) (ms' := 0) (n := 0) clsX9.1 mw_1674 mw_1676 mw_88 mw_108 mw_1677 rfl (okmX9_layPlays) (by decide) (Nat.le_refl _) (by decide) (by decide) dX9_key_16 (sd_iconst (v := 0) (by decide) dX9_key_19 (sd_istore_n (i := 2) rfl (by decide) dX9_key_20 (sd_iconst (v := 0) (by decide) dX9_key_21 (sd_istore_n (i := 3) rfl (by decide) dX9_key_22 (Sd.go))))))) (sd_iconst (v := (-1)) (by decide) dX9_key_13 (sd_iret (ty := .int) rfl (by decide) (by decide) dX9_key_14)))))))) : Sd l E YX9_key (d + 1) 0 0 Q 0 0 0 (bX9_key_0 l E d Q)) ls st h hB
def bX9_key_23 (l : Launch) (E : Ev) (d : Nat) (Q : Option Value → Hp → Prop) : Kt := k_iload 3 (k_push (.int 1) (k_aload 0 (k_getR 9 55 3 (k_push (.int 0) (k_iaload (k_ishl (k_icmp_ge (k_iload 2 (k_iret .int Q)) (k_iload 2 (k_iload 3 (k_iload 1 (k_callS l E YX9_is d 0 0 2 (k_if_ne (k_push (.int 0) (k_iadd (k_istore 2 (k_iinc 3 1 (Go l E YX9_key (d + 1) 0 0 Q 0 0 23))))) (k_aload 0 (k_iload 3 (k_callV l E 9 55 YX9_isShut d 0 0 1 (k_if_ne (k_push (.int 0) (k_iadd (k_istore 2 (k_iinc 3 1 (Go l E YX9_key (d + 1) 0 0 Q 0 0 23))))) (k_aload 0 (k_iload 3 (k_push (.int 1) (k_iload 1 (k_ishl (k_ior (k_callV l E 9 55 YX9_isShut d 0 0 1 (k_if_eq (k_push (.int 0) (k_iadd (k_istore 2 (k_iinc 3 1 (Go l E YX9_key (d + 1) 0 0 Q 0 0 23))))) (k_push (.int 1) (k_iadd (k_istore 2 (k_iinc 3 1 (Go l E YX9_key (d + 1) 0 0 Q 0 0 23)))))))))))))))))))))))))))))
set_option maxRecDepth 100000 in
set_option maxHeartbeats 4000000 in
theorem gX9_key_23 {l : Launch} {E : Ev} {d : Nat} {Q : Option Value → Hp → Prop} {ls : Lv} {st : List Value} {h : Hp} (hB : bX9_key_23 l E d Q ls st h) : Go l E YX9_key (d + 1) 0 0 Q 0 0 23 ls st h :=
  (sd_iload_n (i := 3) rfl dX9_key_23 (sd_iconst (v := 1) (by decide) dX9_key_24 (sd_aload_n (i := 0) rfl dX9_key_25 (sd_getR clsX9 (f := 3) (by decide) (fun _ _ _ => rfl) mw_1181 dX9_key_26 (sd_iconst (v := 0) (by decide) dX9_key_29 (sd_iaload dX9_key_30 (sd_ishl dX9_key_31 (sd_icmp_ge (tgt := 77) (by decide) dX9_key_32 (sd_iload_n (i := 2) rfl dX9_key_77 (sd_iret (ty := .int) rfl (by decide) (by decide) dX9_key_78)) (sd_iload_n (i := 2) rfl dX9_key_35 (sd_iload_n (i := 3) rfl dX9_key_36 (sd_iload_n (i := 1) rfl dX9_key_37 (sd_callS (Y' := YX9_is) (mc' := 0) (ms' := 0) (n := 2) mw_1603 mw_1604 mw_108 mw_1605 (okmX9_is) (by decide) (Nat.le_refl _) (by decide) (by decide) dX9_key_38 (sd_if_ne (tgt := 68) (by decide) dX9_key_41 (sd_iconst (v := 0) (by decide) dX9_key_68 (sd_iadd dX9_key_69 (sd_istore_n (i := 2) rfl (by decide) dX9_key_70 (sd_iinc (i := 3) (v := 1) (by decide) (by decide) dX9_key_71 (sd_goto (tgt := 23) (by decide) dX9_key_74 (Sd.go)))))) (sd_aload_n (i := 0) rfl dX9_key_44 (sd_iload_n (i := 3) rfl dX9_key_45 (sd_callV (Y' := YX9_isShut) (mc' := 0) (ms' := 0) (n := 1) clsX9.1 mw_1686 mw_1688 mw_91 mw_108 mw_1689 rfl (okmX9_isShut) (by decide) (Nat.le_refl _) (by decide) (by decide) dX9_key_46 (sd_if_ne (tgt := 68) (by decide) dX9_key_49 (sd_iconst (v := 0) (by decide) dX9_key_68 (sd_iadd dX9_key_69 (sd_istore_n (i := 2) rfl (by decide) dX9_key_70 (sd_iinc (i := 3) (v := 1) (by decide) (by decide) dX9_key_71 (sd_goto (tgt := 23) (by decide) dX9_key_74 (Sd.go)))))) (sd_aload_n (i := 0) rfl dX9_key_52 (sd_iload_n (i := 3) rfl dX9_key_53 (sd_iconst (v := 1) (by decide) dX9_key_54 (sd_iload_n (i := 1) rfl dX9_key_55 (sd_ishl dX9_key_56 (sd_ior dX9_key_57 (sd_callV (Y' := YX9_isShut) (mc' := 0) (ms' := 0) (n := 1) clsX9.1 mw_1686 mw_1688 mw_91 mw_108 mw_1689 rfl (okmX9_isShut) (by decide) (Nat.le_refl _) (by decide) (by decide) dX9_key_58 (sd_if_eq (tgt := 68) (by decide) dX9_key_61 (sd_iconst (v := 0) (by decide) dX9_key_68 (sd_iadd dX9_key_69 (sd_istore_n (i := 2) rfl (by decide) dX9_key_70 (sd_iinc (i := 3) (v := 1) (by decide) (by decide) dX9_key_71 (sd_goto (tgt := 23) (by decide) dX9_key_74 (Sd.go)))))) (sd_iconst (v := 1) (by decide) dX9_key_64 (sd_goto (tgt := 69) (by decide) dX9_key_65 (sd_iadd dX9_key_69 (sd_istore_n (i := 2) rfl (by decide) dX9_key_70 (sd_iinc (i := 3) (v := 1) (by decide) (by decide) dX9_key_71 (sd_goto (tgt := 23) (by decide) dX9_key_74 (Sd.go))))))))))))))))))))))))))))))) : Sd l E YX9_key (d + 1) 0 0 Q 0 0 23 (bX9_key_23 l E d Q)) ls st h hB
theorem eX9_key {l : Launch} {E : Ev} {d : Nat} {Q : Option Value → Hp → Prop} {h : Hp} {a0 : Nat} {x1 : Int32} (hk : Go l E YX9_key d 0 0 Q 0 0 0 [some (.ref a0), some (.int x1), none, none] [] h) : GoM l E YX9_key d 0 0 [.ref a0, .int x1] h Q := GoM.of (by decide +kernel) rfl (by simp [entA, YX9_key]) hk
