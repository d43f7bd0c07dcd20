theorem dX5_readSum_0 : decode cX5_readSum 0 = .ok (.iload_n 2, 1) := by decide +kernel
theorem dX5_readSum_1 : decode cX5_readSum 1 = .ok (.ifCond .eq 14, 3) := by decide +kernel
theorem dX5_readSum_4 : decode cX5_readSum 4 = .ok (.aload_n 0, 1) := by decide +kernel
theorem dX5_readSum_5 : decode cX5_readSum 5 = .ok (.iload_n 1, 1) := by decide +kernel
theorem dX5_readSum_6 : decode cX5_readSum 6 = .ok (.invokevirtual 122, 3) := by decide +kernel
theorem dX5_readSum_9 : decode cX5_readSum 9 = .ok (.ifCond .eq 15, 3) := by decide +kernel
theorem dX5_readSum_12 : decode cX5_readSum 12 = .ok (.goto 14, 3) := by decide +kernel
theorem dX5_readSum_15 : decode cX5_readSum 15 = .ok (.aload_n 0, 1) := by decide +kernel
theorem dX5_readSum_16 : decode cX5_readSum 16 = .ok (.iload_n 1, 1) := by decide +kernel
theorem dX5_readSum_17 : decode cX5_readSum 17 = .ok (.iconst 1, 1) := by decide +kernel
theorem dX5_readSum_18 : decode cX5_readSum 18 = .ok (.invokevirtual 104, 3) := by decide +kernel
theorem dX5_readSum_21 : decode cX5_readSum 21 = .ok (.ifCond .ne 5, 3) := by decide +kernel
theorem dX5_readSum_24 : decode cX5_readSum 24 = .ok (.iconst 0, 1) := by decide +kernel
theorem dX5_readSum_25 : decode cX5_readSum 25 = .ok (.ireturn, 1) := by decide +kernel
theorem dX5_readSum_26 : decode cX5_readSum 26 = .ok (.iload_n 2, 1) := by decide +kernel
theorem dX5_readSum_27 : decode cX5_readSum 27 = .ok (.ifCond .eq 8, 3) := by decide +kernel
theorem dX5_readSum_30 : decode cX5_readSum 30 = .ok (.bipush 42, 2) := by decide +kernel
theorem dX5_readSum_32 : decode cX5_readSum 32 = .ok (.goto 5, 3) := by decide +kernel
theorem dX5_readSum_35 : decode cX5_readSum 35 = .ok (.bipush 43, 2) := by decide +kernel
theorem dX5_readSum_37 : decode cX5_readSum 37 = .ok (.istore_n 3, 1) := by decide +kernel
theorem dX5_readSum_38 : decode cX5_readSum 38 = .ok (.iload_n 2, 1) := by decide +kernel
theorem dX5_readSum_39 : decode cX5_readSum 39 = .ok (.ifCond .eq 8, 3) := by decide +kernel
theorem dX5_readSum_42 : decode cX5_readSum 42 = .ok (.bipush 47, 2) := by decide +kernel
theorem dX5_readSum_44 : decode cX5_readSum 44 = .ok (.goto 5, 3) := by decide +kernel
theorem dX5_readSum_47 : decode cX5_readSum 47 = .ok (.bipush 45, 2) := by decide +kernel
theorem dX5_readSum_49 : decode cX5_readSum 49 = .ok (.istore 4, 2) := by decide +kernel
theorem dX5_readSum_51 : decode cX5_readSum 51 = .ok (.iconst 0, 1) := by decide +kernel
theorem dX5_readSum_52 : decode cX5_readSum 52 = .ok (.istore 5, 2) := by decide +kernel
theorem dX5_readSum_54 : decode cX5_readSum 54 = .ok (.iload 5, 2) := by decide +kernel
theorem dX5_readSum_56 : decode cX5_readSum 56 = .ok (.sipush 400, 3) := by decide +kernel
theorem dX5_readSum_59 : decode cX5_readSum 59 = .ok (.if_icmp .ge 106, 3) := by decide +kernel
theorem dX5_readSum_62 : decode cX5_readSum 62 = .ok (.aload_n 0, 1) := by decide +kernel
theorem dX5_readSum_63 : decode cX5_readSum 63 = .ok (.bipush 100, 2) := by decide +kernel
theorem dX5_readSum_65 : decode cX5_readSum 65 = .ok (.iload_n 3, 1) := by decide +kernel
theorem dX5_readSum_66 : decode cX5_readSum 66 = .ok (.iadd, 1) := by decide +kernel
theorem dX5_readSum_67 : decode cX5_readSum 67 = .ok (.invokevirtual 54, 3) := by decide +kernel
theorem dX5_readSum_70 : decode cX5_readSum 70 = .ok (.ifCond .ne 15, 3) := by decide +kernel
theorem dX5_readSum_73 : decode cX5_readSum 73 = .ok (.aload_n 0, 1) := by decide +kernel
theorem dX5_readSum_74 : decode cX5_readSum 74 = .ok (.bipush 100, 2) := by decide +kernel
theorem dX5_readSum_76 : decode cX5_readSum 76 = .ok (.iload 4, 2) := by decide +kernel
theorem dX5_readSum_78 : decode cX5_readSum 78 = .ok (.iadd, 1) := by decide +kernel
theorem dX5_readSum_79 : decode cX5_readSum 79 = .ok (.invokevirtual 54, 3) := by decide +kernel
theorem dX5_readSum_82 : decode cX5_readSum 82 = .ok (.ifCond .eq 83, 3) := by decide +kernel
theorem dX5_readSum_85 : decode cX5_readSum 85 = .ok (.aload_n 0, 1) := by decide +kernel
theorem dX5_readSum_86 : decode cX5_readSum 86 = .ok (.bipush 100, 2) := by decide +kernel
theorem dX5_readSum_88 : decode cX5_readSum 88 = .ok (.iload_n 3, 1) := by decide +kernel
theorem dX5_readSum_89 : decode cX5_readSum 89 = .ok (.iadd, 1) := by decide +kernel
theorem dX5_readSum_90 : decode cX5_readSum 90 = .ok (.invokevirtual 54, 3) := by decide +kernel
theorem dX5_readSum_93 : decode cX5_readSum 93 = .ok (.ifCond .eq 16, 3) := by decide +kernel
theorem dX5_readSum_96 : decode cX5_readSum 96 = .ok (.iload_n 2, 1) := by decide +kernel
theorem dX5_readSum_97 : decode cX5_readSum 97 = .ok (.ifCond .eq 8, 3) := by decide +kernel
theorem dX5_readSum_100 : decode cX5_readSum 100 = .ok (.bipush 7, 2) := by decide +kernel
theorem dX5_readSum_102 : decode cX5_readSum 102 = .ok (.goto 18, 3) := by decide +kernel
theorem dX5_readSum_105 : decode cX5_readSum 105 = .ok (.iconst 5, 1) := by decide +kernel
theorem dX5_readSum_106 : decode cX5_readSum 106 = .ok (.goto 14, 3) := by decide +kernel
theorem dX5_readSum_109 : decode cX5_readSum 109 = .ok (.iload_n 2, 1) := by decide +kernel
theorem dX5_readSum_110 : decode cX5_readSum 110 = .ok (.ifCond .eq 8, 3) := by decide +kernel
theorem dX5_readSum_113 : decode cX5_readSum 113 = .ok (.bipush 8, 2) := by decide +kernel
theorem dX5_readSum_115 : decode cX5_readSum 115 = .ok (.goto 5, 3) := by decide +kernel
theorem dX5_readSum_118 : decode cX5_readSum 118 = .ok (.bipush 6, 2) := by decide +kernel
theorem dX5_readSum_120 : decode cX5_readSum 120 = .ok (.istore 6, 2) := by decide +kernel
theorem dX5_readSum_122 : decode cX5_readSum 122 = .ok (.aload_n 0, 1) := by decide +kernel
theorem dX5_readSum_123 : decode cX5_readSum 123 = .ok (.invokevirtual 58, 3) := by decide +kernel
theorem dX5_readSum_126 : decode cX5_readSum 126 = .ok (.iload_n 2, 1) := by decide +kernel
theorem dX5_readSum_127 : decode cX5_readSum 127 = .ok (.ifCond .eq 14, 3) := by decide +kernel
theorem dX5_readSum_130 : decode cX5_readSum 130 = .ok (.aload_n 0, 1) := by decide +kernel
theorem dX5_readSum_131 : decode cX5_readSum 131 = .ok (.iload_n 1, 1) := by decide +kernel
theorem dX5_readSum_132 : decode cX5_readSum 132 = .ok (.invokevirtual 122, 3) := by decide +kernel
theorem dX5_readSum_135 : decode cX5_readSum 135 = .ok (.ifCond .eq 15, 3) := by decide +kernel
theorem dX5_readSum_138 : decode cX5_readSum 138 = .ok (.goto 14, 3) := by decide +kernel
theorem dX5_readSum_141 : decode cX5_readSum 141 = .ok (.aload_n 0, 1) := by decide +kernel
theorem dX5_readSum_142 : decode cX5_readSum 142 = .ok (.iload_n 1, 1) := by decide +kernel
theorem dX5_readSum_143 : decode cX5_readSum 143 = .ok (.iconst 1, 1) := by decide +kernel
theorem dX5_readSum_144 : decode cX5_readSum 144 = .ok (.invokevirtual 104, 3) := by decide +kernel
theorem dX5_readSum_147 : decode cX5_readSum 147 = .ok (.ifCond .ne 5, 3) := by decide +kernel
theorem dX5_readSum_150 : decode cX5_readSum 150 = .ok (.iconst 0, 1) := by decide +kernel
theorem dX5_readSum_151 : decode cX5_readSum 151 = .ok (.ireturn, 1) := by decide +kernel
theorem dX5_readSum_152 : decode cX5_readSum 152 = .ok (.aload_n 0, 1) := by decide +kernel
theorem dX5_readSum_153 : decode cX5_readSum 153 = .ok (.iload 6, 2) := by decide +kernel
theorem dX5_readSum_155 : decode cX5_readSum 155 = .ok (.iconst 0, 1) := by decide +kernel
theorem dX5_readSum_156 : decode cX5_readSum 156 = .ok (.invokevirtual 114, 3) := by decide +kernel
theorem dX5_readSum_159 : decode cX5_readSum 159 = .ok (.iinc 5 1, 3) := by decide +kernel
theorem dX5_readSum_162 : decode cX5_readSum 162 = .ok (.goto (-108), 3) := by decide +kernel
theorem dX5_readSum_165 : decode cX5_readSum 165 = .ok (.iconst 1, 1) := by decide +kernel
theorem dX5_readSum_166 : decode cX5_readSum 166 = .ok (.ireturn, 1) := by decide +kernel
def bX5_readSum_0 (l : Launch) (E : Ev) (d : Nat) (Q : Option Value → Hp → Prop) : Kt := k_iload 2 (k_if_eq (k_aload 0 (k_iload 1 (k_push (.int 1) (k_callV l E 5 12 YX5_readSum d 0 0 2 (k_if_ne (Go l E YX5_readSum (d + 1) 0 0 Q 0 0 26) (k_push (.int 0) (k_iret .boolean Q))))))) (k_aload 0 (k_iload 1 (k_callV l E 5 12 YX5_readPiece d 0 0 1 (k_if_eq (k_push (.int 0) (k_iret .boolean Q)) (Go l E YX5_readSum (d + 1) 0 0 Q 0 0 26))))))
set_option maxRecDepth 100000 in
set_option maxHeartbeats 4000000 in
theorem gX5_readSum_0 {l : Launch} {E : Ev} {d : Nat} {Q : Option Value → Hp → Prop} {ls : Lv} {st : List Value} {h : Hp} (hB : bX5_readSum_0 l E d Q ls st h) : Go l E YX5_readSum (d + 1) 0 0 Q 0 0 0 ls st h :=
  (sd_iload_n (i := 2) rfl dX5_readSum_0 (sd_if_eq (tgt := 15) (by decide) dX5_readSum_1 (sd_aload_n (i := 0) rfl dX5_readSum_15 (sd_iload_n (i := 1) rfl dX5_readSum_16 (sd_iconst (v := 1) (by decide) dX5_readSum_17 (sd_callV (Y' := YX5_readSum) (mc' := 0) (ms' := 0) (n := 2) clsX5.1 mw_702 mw_704 mw_8 mw_102 mw_705 rfl (okmX5_readSum) (by decide) (Nat.le_refl _) (by decide) (by decide) dX5_readSum_18 (sd_if_ne (tgt := 26) (by decide) dX5_readSum_21 (Sd.go) (sd_iconst (v := 0) (by decide) dX5_readSum_24 (sd_iret (ty := .boolean) rfl (by decide) (by decide) dX5_readSum_25))))))) (sd_aload_n (i := 0) rfl dX5_readSum_4 (sd_iload_n (i := 1) rfl dX5_readSum_5 (sd_callV (Y' := YX5_readPiece) (mc' := 0) (ms' := 0) (n := 1) clsX5.1 mw_706 mw_708 mw_9 mw_102 mw_709 rfl (okmX5_readPiece) (by decide) (Nat.le_refl _) (by decide) (by decide) dX5_readSum_6 (sd_if_eq (tgt := 24) (by decide) dX5_readSum_9 (sd_iconst (v := 0) (by decide) dX5_readSum_24 (sd_iret (ty := .boolean) rfl (by decide) (by decide) dX5_readSum_25)) (sd_goto (tgt := 26) (by decide) dX5_readSum_12 (Sd.go))))))) : Sd l E YX5_readSum (d + 1) 0 0 Q 0 0 0 (bX5_readSum_0 l E d Q)) ls st h hB
def bX5_readSum_26 (l : Launch) (E : Ev) (d : Nat) (Q : Option Value → Hp → Prop) : Kt := k_iload 2 (k_if_eq (k_push (.int 43) (Go l E YX5_readSum (d + 1) 0 0 Q 0 0 37)) (k_push (.int 42) (Go l E YX5_readSum (d + 1) 0 0 Q 0 0 37)))
set_option maxRecDepth 100000 in
set_option maxHeartbeats 4000000 in
theorem gX5_readSum_26 {l : Launch} {E : Ev} {d : Nat} {Q : Option Value → Hp → Prop} {ls : Lv} {st : List Value} {h : Hp} (hB : bX5_readSum_26 l E d Q ls st h) : Go l E YX5_readSum (d + 1) 0 0 Q 0 0 26 ls st h :=
  (sd_iload_n (i := 2) rfl dX5_readSum_26 (sd_if_eq (tgt := 35) (by decide) dX5_readSum_27 (sd_bipush (v := 43) (by decide) dX5_readSum_35 (Sd.go)) (sd_bipush (v := 42) (by decide) dX5_readSum_30 (sd_goto (tgt := 37) (by decide) dX5_readSum_32 (Sd.go)))) : Sd l E YX5_readSum (d + 1) 0 0 Q 0 0 26 (bX5_readSum_26 l E d Q)) ls st h hB
def bX5_readSum_37 (l : Launch) (E : Ev) (d : Nat) (Q : Option Value → Hp → Prop) : Kt := k_istore 3 (k_iload 2 (k_if_eq (k_push (.int 45) (k_istore 4 (k_push (.int 0) (k_istore 5 (Go l E YX5_readSum (d + 1) 0 0 Q 0 0 54))))) (k_push (.int 47) (k_istore 4 (k_push (.int 0) (k_istore 5 (Go l E YX5_readSum (d + 1) 0 0 Q 0 0 54)))))))
set_option maxRecDepth 100000 in
set_option maxHeartbeats 4000000 in
theorem gX5_readSum_37 {l : Launch} {E : Ev} {d : Nat} {Q : Option Value → Hp → Prop} {ls : Lv} {st : List Value} {h : Hp} (hB : bX5_readSum_37 l E d Q ls st h) : Go l E YX5_readSum (d + 1) 0 0 Q 0 0 37 ls st h :=
  (sd_istore_n (i := 3) rfl (by decide) dX5_readSum_37 (sd_iload_n (i := 2) rfl dX5_readSum_38 (sd_if_eq (tgt := 47) (by decide) dX5_readSum_39 (sd_bipush (v := 45) (by decide) dX5_readSum_47 (sd_istore (i := 4) (by decide) dX5_readSum_49 (sd_iconst (v := 0) (by decide) dX5_readSum_51 (sd_istore (i := 5) (by decide) dX5_readSum_52 (Sd.go))))) (sd_bipush (v := 47) (by decide) dX5_readSum_42 (sd_goto (tgt := 49) (by decide) dX5_readSum_44 (sd_istore (i := 4) (by decide) dX5_readSum_49 (sd_iconst (v := 0) (by decide) dX5_readSum_51 (sd_istore (i := 5) (by decide) dX5_readSum_52 (Sd.go)))))))) : Sd l E YX5_readSum (d + 1) 0 0 Q 0 0 37 (bX5_readSum_37 l E d Q)) ls st h hB
def bX5_readSum_54 (l : Launch) (E : Ev) (d : Nat) (Q : Option Value → Hp → Prop) : Kt := k_iload 5 (k_push (.int 400) (k_icmp_ge (k_push (.int 1) (k_iret .boolean Q)) (k_aload 0 (k_push (.int 100) (k_iload 3 (k_iadd (k_callV l E 5 12 YX5_sees d 0 0 1 (k_if_ne (Go l E YX5_readSum (d + 1) 0 0 Q 0 0 85) (k_aload 0 (k_push (.int 100) (k_iload 4 (k_iadd (k_callV l E 5 12 YX5_sees d 0 0 1 (k_if_eq (k_push (.int 1) (k_iret .boolean Q)) (Go l E YX5_readSum (d + 1) 0 0 Q 0 0 85)))))))))))))))
set_option maxRecDepth 100000 in
set_option maxHeartbeats 4000000 in
theorem gX5_readSum_54 {l : Launch} {E : Ev} {d : Nat} {Q : Option Value → Hp → Prop} {ls : Lv} {st : List Value} {h : Hp} (hB : bX5_readSum_54 l E d Q ls st h) : Go l E YX5_readSum (d + 1) 0 0 Q 0 0 54 ls st h :=
  (sd_iload (n := 5) dX5_readSum_54 (sd_sipush (v := 400) (by decide) dX5_readSum_56 (sd_icmp_ge (tgt := 165) (by decide) dX5_readSum_59 (sd_iconst (v := 1) (by decide) dX5_readSum_165 (sd_iret (ty := .boolean) rfl (by decide) (by decide) dX5_readSum_166)) (sd_aload_n (i := 0) rfl dX5_readSum_62 (sd_bipush (v := 100) (by decide) dX5_readSum_63 (sd_iload_n (i := 3) rfl dX5_readSum_65 (sd_iadd dX5_readSum_66 (sd_callV (Y' := YX5_sees) (mc' := 0) (ms' := 0) (n := 1) clsX5.1 mw_710 mw_712 mw_10 mw_102 mw_713 rfl (okmX5_sees) (by decide) (Nat.le_refl _) (by decide) (by decide) dX5_readSum_67 (sd_if_ne (tgt := 85) (by decide) dX5_readSum_70 (Sd.go) (sd_aload_n (i := 0) rfl dX5_readSum_73 (sd_bipush (v := 100) (by decide) dX5_readSum_74 (sd_iload (n := 4) dX5_readSum_76 (sd_iadd dX5_readSum_78 (sd_callV (Y' := YX5_sees) (mc' := 0) (ms' := 0) (n := 1) clsX5.1 mw_710 mw_712 mw_10 mw_102 mw_713 rfl (okmX5_sees) (by decide) (Nat.le_refl _) (by decide) (by decide) dX5_readSum_79 (sd_if_eq (tgt := 165) (by decide) dX5_readSum_82 (sd_iconst (v := 1) (by decide) dX5_readSum_165 (sd_iret (ty := .boolean) rfl (by decide) (by decide) dX5_readSum_166)) (Sd.go))))))))))))))) : Sd l E YX5_readSum (d + 1) 0 0 Q 0 0 54 (bX5_readSum_54 l E d Q)) ls st h hB
def bX5_readSum_85 (l : Launch) (E : Ev) (d : Nat) (Q : Option Value → Hp → Prop) : Kt := k_aload 0 (k_push (.int 100) (k_iload 3 (k_iadd (k_callV l E 5 12 YX5_sees d 0 0 1 (k_if_eq (k_iload 2 (k_if_eq (k_push (.int 6) (Go l E YX5_readSum (d + 1) 0 0 Q 0 0 120)) (k_push (.int 8) (Go l E YX5_readSum (d + 1) 0 0 Q 0 0 120)))) (k_iload 2 (k_if_eq (k_push (.int 5) (Go l E YX5_readSum (d + 1) 0 0 Q 0 0 120)) (k_push (.int 7) (Go l E YX5_readSum (d + 1) 0 0 Q 0 0 120)))))))))
set_option maxRecDepth 100000 in
set_option maxHeartbeats 4000000 in
theorem gX5_readSum_85 {l : Launch} {E : Ev} {d : Nat} {Q : Option Value → Hp → Prop} {ls : Lv} {st : List Value} {h : Hp} (hB : bX5_readSum_85 l E d Q ls st h) : Go l E YX5_readSum (d + 1) 0 0 Q 0 0 85 ls st h :=
  (sd_aload_n (i := 0) rfl dX5_readSum_85 (sd_bipush (v := 100) (by decide) dX5_readSum_86 (sd_iload_n (i := 3) rfl dX5_readSum_88 (sd_iadd dX5_readSum_89 (sd_callV (Y' := YX5_sees) (mc' := 0) (ms' := 0) (n := 1) clsX5.1 mw_710 mw_712 mw_10 mw_102 mw_713 rfl (okmX5_sees) (by decide) (Nat.le_refl _) (by decide) (by decide) dX5_readSum_90 (sd_if_eq (tgt := 109) (by decide) dX5_readSum_93 (sd_iload_n (i := 2) rfl dX5_readSum_109 (sd_if_eq (tgt := 118) (by decide) dX5_readSum_110 (sd_bipush (v := 6) (by decide) dX5_readSum_118 (Sd.go)) (sd_bipush (v := 8) (by decide) dX5_readSum_113 (sd_goto (tgt := 120) (by decide) dX5_readSum_115 (Sd.go))))) (sd_iload_n (i := 2) rfl dX5_readSum_96 (sd_if_eq (tgt := 105) (by decide) dX5_readSum_97 (sd_iconst (v := 5) (by decide) dX5_readSum_105 (sd_goto (tgt := 120) (by decide) dX5_readSum_106 (Sd.go))) (sd_bipush (v := 7) (by decide) dX5_readSum_100 (sd_goto (tgt := 120) (by decide) dX5_readSum_102 (Sd.go)))))))))) : Sd l E YX5_readSum (d + 1) 0 0 Q 0 0 85 (bX5_readSum_85 l E d Q)) ls st h hB
def bX5_readSum_120 (l : Launch) (E : Ev) (d : Nat) (Q : Option Value → Hp → Prop) : Kt := k_istore 6 (k_aload 0 (k_callV l E 5 12 YX5_take d 0 0 0 (k_iload 2 (k_if_eq (k_aload 0 (k_iload 1 (k_push (.int 1) (k_callV l E 5 12 YX5_readSum d 0 0 2 (k_if_ne (Go l E YX5_readSum (d + 1) 0 0 Q 0 0 152) (k_push (.int 0) (k_iret .boolean Q))))))) (k_aload 0 (k_iload 1 (k_callV l E 5 12 YX5_readPiece d 0 0 1 (k_if_eq (k_push (.int 0) (k_iret .boolean Q)) (Go l E YX5_readSum (d + 1) 0 0 Q 0 0 152)))))))))
set_option maxRecDepth 100000 in
set_option maxHeartbeats 4000000 in
theorem gX5_readSum_120 {l : Launch} {E : Ev} {d : Nat} {Q : Option Value → Hp → Prop} {ls : Lv} {st : List Value} {h : Hp} (hB : bX5_readSum_120 l E d Q ls st h) : Go l E YX5_readSum (d + 1) 0 0 Q 0 0 120 ls st h :=
  (sd_istore (i := 6) (by decide) dX5_readSum_120 (sd_aload_n (i := 0) rfl dX5_readSum_122 (sd_callV (Y' := YX5_take) (mc' := 0) (ms' := 0) (n := 0) clsX5.1 mw_698 mw_700 mw_7 mw_102 mw_701 rfl (okmX5_take) (by decide) (Nat.le_refl _) (by decide) (by decide) dX5_readSum_123 (sd_iload_n (i := 2) rfl dX5_readSum_126 (sd_if_eq (tgt := 141) (by decide) dX5_readSum_127 (sd_aload_n (i := 0) rfl dX5_readSum_141 (sd_iload_n (i := 1) rfl dX5_readSum_142 (sd_iconst (v := 1) (by decide) dX5_readSum_143 (sd_callV (Y' := YX5_readSum) (mc' := 0) (ms' := 0) (n := 2) clsX5.1 mw_702 mw_704 mw_8 mw_102 mw_705 rfl (okmX5_readSum) (by decide) (Nat.le_refl _) (by decide) (by decide) dX5_readSum_144 (sd_if_ne (tgt := 152) (by decide) dX5_readSum_147 (Sd.go) (sd_iconst (v := 0) (by decide) dX5_readSum_150 (sd_iret (ty := .boolean) rfl (by decide) (by decide) dX5_readSum_151))))))) (sd_aload_n (i := 0) rfl dX5_readSum_130 (sd_iload_n (i := 1) rfl dX5_readSum_131 (sd_callV (Y' := YX5_readPiece) (mc' := 0) (ms' := 0) (n := 1) clsX5.1 mw_706 mw_708 mw_9 mw_102 mw_709 rfl (okmX5_readPiece) (by decide) (Nat.le_refl _) (by decide) (by decide) dX5_readSum_132 (sd_if_eq (tgt := 150) (by decide) dX5_readSum_135 (sd_iconst (v := 0) (by decide) dX5_readSum_150 (sd_iret (ty := .boolean) rfl (by decide) (by decide) dX5_readSum_151)) (sd_goto (tgt := 152) (by decide) dX5_readSum_138 (Sd.go)))))))))) : Sd l E YX5_readSum (d + 1) 0 0 Q 0 0 120 (bX5_readSum_120 l E d Q)) ls st h hB
def bX5_readSum_152 (l : Launch) (E : Ev) (d : Nat) (Q : Option Value → Hp → Prop) : Kt := k_aload 0 (k_iload 6 (k_push (.int 0) (k_callV l E 5 12 YX5_addStep d 0 0 2 (k_iinc 5 1 (Go l E YX5_readSum (d + 1) 0 0 Q 0 0 54)))))
set_option maxRecDepth 100000 in
set_option maxHeartbeats 4000000 in
theorem gX5_readSum_152 {l : Launch} {E : Ev} {d : Nat} {Q : Option Value → Hp → Prop} {ls : Lv} {st : List Value} {h : Hp} (hB : bX5_readSum_152 l E d Q ls st h) : Go l E YX5_readSum (d + 1) 0 0 Q 0 0 152 ls st h :=
  (sd_aload_n (i := 0) rfl dX5_readSum_152 (sd_iload (n := 6) dX5_readSum_153 (sd_iconst (v := 0) (by decide) dX5_readSum_155 (sd_callV (Y' := YX5_addStep) (mc' := 0) (ms' := 0) (n := 2) clsX5.1 mw_714 mw_716 mw_11 mw_102 mw_717 rfl (okmX5_addStep) (by decide) (Nat.le_refl _) (by decide) (by decide) dX5_readSum_156 (sd_iinc (i := 5) (v := 1) (by decide) (by decide) dX5_readSum_159 (sd_goto (tgt := 54) (by decide) dX5_readSum_162 (Sd.go)))))) : Sd l E YX5_readSum (d + 1) 0 0 Q 0 0 152 (bX5_readSum_152 l E d Q)) ls st h hB
theorem eX5_readSum {l : Launch} {E : Ev} {d : Nat} {Q : Option Value → Hp → Prop} {h : Hp} {a0 : Nat} {x1 : Int32} {x2 : Int32} (hk : Go l E YX5_readSum d 0 0 Q 0 0 0 [some (.ref a0), some (.int x1), some (.int x2), none, none, none, none] [] h) : GoM l E YX5_readSum d 0 0 [.ref a0, .int x1, .int x2] h Q := GoM.of (by decide +kernel) rfl (by simp [entA, YX5_readSum]) hk
theorem dX5_readPiece_0 : decode cX5_readPiece 0 = .ok (.aload_n 0, 1) := by decide +kernel
theorem dX5_readPiece_1 : decode cX5_readPiece 1 = .ok (.sipush 191, 3) := by decide +kernel
theorem dX5_readPiece_4 : decode cX5_readPiece 4 = .ok (.invokevirtual 54, 3) := by decide +kernel
theorem dX5_readPiece_7 : decode cX5_readPiece 7 = .ok (.ifCond .eq 44, 3) := by decide +kernel
theorem dX5_readPiece_10 : decode cX5_readPiece 10 = .ok (.iload_n 1, 1) := by decide +kernel
theorem dX5_readPiece_11 : decode cX5_readPiece 11 = .ok (.bipush 8, 2) := by decide +kernel
theorem dX5_readPiece_13 : decode cX5_readPiece 13 = .ok (.if_icmp .lt 5, 3) := by decide +kernel
theorem dX5_readPiece_16 : decode cX5_readPiece 16 = .ok (.iconst 0, 1) := by decide +kernel
theorem dX5_readPiece_17 : decode cX5_readPiece 17 = .ok (.ireturn, 1) := by decide +kernel
theorem dX5_readPiece_18 : decode cX5_readPiece 18 = .ok (.aload_n 0, 1) := by decide +kernel
theorem dX5_readPiece_19 : decode cX5_readPiece 19 = .ok (.invokevirtual 58, 3) := by decide +kernel
theorem dX5_readPiece_22 : decode cX5_readPiece 22 = .ok (.aload_n 0, 1) := by decide +kernel
theorem dX5_readPiece_23 : decode cX5_readPiece 23 = .ok (.iload_n 1, 1) := by decide +kernel
theorem dX5_readPiece_24 : decode cX5_readPiece 24 = .ok (.iconst 1, 1) := by decide +kernel
theorem dX5_readPiece_25 : decode cX5_readPiece 25 = .ok (.iadd, 1) := by decide +kernel
theorem dX5_readPiece_26 : decode cX5_readPiece 26 = .ok (.iconst 0, 1) := by decide +kernel
theorem dX5_readPiece_27 : decode cX5_readPiece 27 = .ok (.invokevirtual 104, 3) := by decide +kernel
theorem dX5_readPiece_30 : decode cX5_readPiece 30 = .ok (.ifCond .eq 13, 3) := by decide +kernel
theorem dX5_readPiece_33 : decode cX5_readPiece 33 = .ok (.aload_n 0, 1) := by decide +kernel
theorem dX5_readPiece_34 : decode cX5_readPiece 34 = .ok (.sipush 193, 3) := by decide +kernel
theorem dX5_readPiece_37 : decode cX5_readPiece 37 = .ok (.invokevirtual 54, 3) := by decide +kernel
theorem dX5_readPiece_40 : decode cX5_readPiece 40 = .ok (.ifCond .ne 5, 3) := by decide +kernel
theorem dX5_readPiece_43 : decode cX5_readPiece 43 = .ok (.iconst 0, 1) := by decide +kernel
theorem dX5_readPiece_44 : decode cX5_readPiece 44 = .ok (.ireturn, 1) := by decide +kernel
theorem dX5_readPiece_45 : decode cX5_readPiece 45 = .ok (.aload_n 0, 1) := by decide +kernel
theorem dX5_readPiece_46 : decode cX5_readPiece 46 = .ok (.invokevirtual 58, 3) := by decide +kernel
theorem dX5_readPiece_49 : decode cX5_readPiece 49 = .ok (.iconst 1, 1) := by decide +kernel
theorem dX5_readPiece_50 : decode cX5_readPiece 50 = .ok (.ireturn, 1) := by decide +kernel
theorem dX5_readPiece_51 : decode cX5_readPiece 51 = .ok (.aload_n 0, 1) := by decide +kernel
theorem dX5_readPiece_52 : decode cX5_readPiece 52 = .ok (.getfield 9, 3) := by decide +kernel
theorem dX5_readPiece_55 : decode cX5_readPiece 55 = .ok (.aload_n 0, 1) := by decide +kernel
theorem dX5_readPiece_56 : decode cX5_readPiece 56 = .ok (.getfield 38, 3) := by decide +kernel
theorem dX5_readPiece_59 : decode cX5_readPiece 59 = .ok (.iaload, 1) := by decide +kernel
theorem dX5_readPiece_60 : decode cX5_readPiece 60 = .ok (.istore_n 2, 1) := by decide +kernel
theorem dX5_readPiece_61 : decode cX5_readPiece 61 = .ok (.iload_n 2, 1) := by decide +kernel
theorem dX5_readPiece_62 : decode cX5_readPiece 62 = .ok (.bipush 8, 2) := by decide +kernel
theorem dX5_readPiece_64 : decode cX5_readPiece 64 = .ok (.if_icmp .lt 18, 3) := by decide +kernel
theorem dX5_readPiece_67 : decode cX5_readPiece 67 = .ok (.iload_n 2, 1) := by decide +kernel
theorem dX5_readPiece_68 : decode cX5_readPiece 68 = .ok (.bipush 18, 2) := by decide +kernel
theorem dX5_readPiece_70 : decode cX5_readPiece 70 = .ok (.if_icmp .gt 12, 3) := by decide +kernel
theorem dX5_readPiece_73 : decode cX5_readPiece 73 = .ok (.aload_n 0, 1) := by decide +kernel
theorem dX5_readPiece_74 : decode cX5_readPiece 74 = .ok (.getfield 47, 3) := by decide +kernel
theorem dX5_readPiece_77 : decode cX5_readPiece 77 = .ok (.bipush 50, 2) := by decide +kernel
theorem dX5_readPiece_79 : decode cX5_readPiece 79 = .ok (.if_icmp .lt 5, 3) := by decide +kernel
theorem dX5_readPiece_82 : decode cX5_readPiece 82 = .ok (.iconst 0, 1) := by decide +kernel
theorem dX5_readPiece_83 : decode cX5_readPiece 83 = .ok (.ireturn, 1) := by decide +kernel
theorem dX5_readPiece_84 : decode cX5_readPiece 84 = .ok (.aload_n 0, 1) := by decide +kernel
theorem dX5_readPiece_85 : decode cX5_readPiece 85 = .ok (.dup, 1) := by decide +kernel
theorem dX5_readPiece_86 : decode cX5_readPiece 86 = .ok (.getfield 47, 3) := by decide +kernel
theorem dX5_readPiece_89 : decode cX5_readPiece 89 = .ok (.iconst 1, 1) := by decide +kernel
theorem dX5_readPiece_90 : decode cX5_readPiece 90 = .ok (.iadd, 1) := by decide +kernel
theorem dX5_readPiece_91 : decode cX5_readPiece 91 = .ok (.putfield 47, 3) := by decide +kernel
theorem dX5_readPiece_94 : decode cX5_readPiece 94 = .ok (.aload_n 0, 1) := by decide +kernel
theorem dX5_readPiece_95 : decode cX5_readPiece 95 = .ok (.iload_n 2, 1) := by decide +kernel
theorem dX5_readPiece_96 : decode cX5_readPiece 96 = .ok (.bipush 18, 2) := by decide +kernel
theorem dX5_readPiece_98 : decode cX5_readPiece 98 = .ok (.if_icmp .ne 7, 3) := by decide +kernel
theorem dX5_readPiece_101 : decode cX5_readPiece 101 = .ok (.iconst 0, 1) := by decide +kernel
theorem dX5_readPiece_102 : decode cX5_readPiece 102 = .ok (.goto 4, 3) := by decide +kernel
theorem dX5_readPiece_105 : decode cX5_readPiece 105 = .ok (.iconst 1, 1) := by decide +kernel
theorem dX5_readPiece_106 : decode cX5_readPiece 106 = .ok (.iload_n 2, 1) := by decide +kernel
theorem dX5_readPiece_107 : decode cX5_readPiece 107 = .ok (.bipush 18, 2) := by decide +kernel
theorem dX5_readPiece_109 : decode cX5_readPiece 109 = .ok (.if_icmp .ne 15, 3) := by decide +kernel
theorem dX5_readPiece_112 : decode cX5_readPiece 112 = .ok (.aload_n 0, 1) := by decide +kernel
theorem dX5_readPiece_113 : decode cX5_readPiece 113 = .ok (.getfield 15, 3) := by decide +kernel
theorem dX5_readPiece_116 : decode cX5_readPiece 116 = .ok (.aload_n 0, 1) := by decide +kernel
theorem dX5_readPiece_117 : decode cX5_readPiece 117 = .ok (.getfield 38, 3) := by decide +kernel
theorem dX5_readPiece_120 : decode cX5_readPiece 120 = .ok (.iaload, 1) := by decide +kernel
theorem dX5_readPiece_121 : decode cX5_readPiece 121 = .ok (.goto 7, 3) := by decide +kernel
theorem dX5_readPiece_124 : decode cX5_readPiece 124 = .ok (.iload_n 2, 1) := by decide +kernel
theorem dX5_readPiece_125 : decode cX5_readPiece 125 = .ok (.bipush 8, 2) := by decide +kernel
theorem dX5_readPiece_127 : decode cX5_readPiece 127 = .ok (.isub, 1) := by decide +kernel
theorem dX5_readPiece_128 : decode cX5_readPiece 128 = .ok (.invokevirtual 114, 3) := by decide +kernel
theorem dX5_readPiece_131 : decode cX5_readPiece 131 = .ok (.aload_n 0, 1) := by decide +kernel
theorem dX5_readPiece_132 : decode cX5_readPiece 132 = .ok (.invokevirtual 58, 3) := by decide +kernel
theorem dX5_readPiece_135 : decode cX5_readPiece 135 = .ok (.iconst 1, 1) := by decide +kernel
theorem dX5_readPiece_136 : decode cX5_readPiece 136 = .ok (.ireturn, 1) := by decide +kernel
def bX5_readPiece_0 (l : Launch) (E : Ev) (d : Nat) (Q : Option Value → Hp → Prop) : Kt := k_aload 0 (k_push (.int 191) (k_callV l E 5 12 YX5_sees d 0 0 1 (k_if_eq (k_aload 0 (k_getR 5 12 0 (k_aload 0 (k_getI 5 12 4 (k_iaload (k_istore 2 (k_iload 2 (k_push (.int 8) (k_icmp_lt (k_push (.int 0) (k_iret .boolean Q)) (k_iload 2 (k_push (.int 18) (k_icmp_gt (k_push (.int 0) (k_iret .boolean Q)) (k_aload 0 (k_getI 5 12 10 (k_push (.int 50) (k_icmp_lt (k_aload 0 (k_dup (k_getI 5 12 10 (k_push (.int 1) (k_iadd (k_putI 5 12 10 (k_aload 0 (k_iload 2 (k_push (.int 18) (k_icmp_ne (k_push (.int 1) (Go l E YX5_readPiece (d + 1) 0 0 Q 0 0 106)) (k_push (.int 0) (Go l E YX5_readPiece (d + 1) 0 0 Q 0 0 106)))))))))))) (k_push (.int 0) (k_iret .boolean Q)))))))))))))))))) (k_iload 1 (k_push (.int 8) (k_icmp_lt (k_aload 0 (k_callV l E 5 12 YX5_take d 0 0 0 (k_aload 0 (k_iload 1 (k_push (.int 1) (k_iadd (k_push (.int 0) (k_callV l E 5 12 YX5_readSum d 0 0 2 (k_if_eq (k_push (.int 0) (k_iret .boolean Q)) (k_aload 0 (k_push (.int 193) (k_callV l E 5 12 YX5_sees d 0 0 1 (k_if_ne (k_aload 0 (k_callV l E 5 12 YX5_take d 0 0 0 (k_push (.int 1) (k_iret .boolean Q)))) (k_push (.int 0) (k_iret .boolean Q))))))))))))))) (k_push (.int 0) (k_iret .boolean Q))))))))
set_option maxRecDepth 100000 in
set_option maxHeartbeats 4000000 in
theorem gX5_readPiece_0 {l : Launch} {E : Ev} {d : Nat} {Q : Option Value → Hp → Prop} {ls : Lv} {st : List Value} {h : Hp} (hB : bX5_readPiece_0 l E d Q ls st h) : Go l E YX5_readPiece (d + 1) 0 0 Q 0 0 0 ls st h :=
  (sd_aload_n (i := 0) rfl dX5_readPiece_0 (sd_sipush (v := 191) (by decide) dX5_readPiece_1 (sd_callV (Y' := YX5_sees) (mc' := 0) (ms' := 0) (n := 1) clsX5.1 mw_710 mw_712 mw_10 mw_102 mw_713 rfl (okmX5_sees) (by decide) (Nat.le_refl _) (by decide) (by decide) dX5_readPiece_4 (sd_if_eq (tgt := 51) (by decide) dX5_readPiece_7 (sd_aload_n (i := 0) rfl dX5_readPiece_51 (sd_getR clsX5 (f := 0) (by decide) (fun _ _ _ => rfl) mw_222 dX5_readPiece_52 (sd_aload_n (i := 0) rfl dX5_readPiece_55 (sd_getI clsX5 (f := 4) (by decide) (fun _ _ _ => rfl) mw_226 dX5_readPiece_56 (sd_iaload dX5_readPiece_59 (sd_istore_n (i := 2) rfl (by decide) dX5_readPiece_60 (sd_iload_n (i := 2) rfl dX5_readPiece_61 (sd_bipush (v := 8) (by decide) dX5_readPiece_62 (sd_icmp_lt (tgt := 82) (by decide) dX5_readPiece_64 (sd_iconst (v := 0) (by decide) dX5_readPiece_82 (sd_iret (ty := .boolean) rfl (by decide) (by decide) dX5_readPiece_83)) (sd_iload_n (i := 2) rfl dX5_readPiece_67 (sd_bipush (v := 18) (by decide) dX5_readPiece_68 (sd_icmp_gt (tgt := 82) (by decide) dX5_readPiece_70 (sd_iconst (v := 0) (by decide) dX5_readPiece_82 (sd_iret (ty := .boolean) rfl (by decide) (by decide) dX5_readPiece_83)) (sd_aload_n (i := 0) rfl dX5_readPiece_73 (sd_getI clsX5 (f := 10) (by decide) (fun _ _ _ => rfl) mw_232 dX5_readPiece_74 (sd_bipush (v := 50) (by decide) dX5_readPiece_77 (sd_icmp_lt (tgt := 84) (by decide) dX5_readPiece_79 (sd_aload_n (i := 0) rfl dX5_readPiece_84 (sd_dup dX5_readPiece_85 (sd_getI clsX5 (f := 10) (by decide) (fun _ _ _ => rfl) mw_232 dX5_readPiece_86 (sd_iconst (v := 1) (by decide) dX5_readPiece_89 (sd_iadd dX5_readPiece_90 (sd_putI clsX5 (f := 10) (by decide) (fun _ _ _ => rfl) rfl (Or.inl rfl) mw_232 dX5_readPiece_91 (sd_aload_n (i := 0) rfl dX5_readPiece_94 (sd_iload_n (i := 2) rfl dX5_readPiece_95 (sd_bipush (v := 18) (by decide) dX5_readPiece_96 (sd_icmp_ne (tgt := 105) (by decide) dX5_readPiece_98 (sd_iconst (v := 1) (by decide) dX5_readPiece_105 (Sd.go)) (sd_iconst (v := 0) (by decide) dX5_readPiece_101 (sd_goto (tgt := 106) (by decide) dX5_readPiece_102 (Sd.go))))))))))))) (sd_iconst (v := 0) (by decide) dX5_readPiece_82 (sd_iret (ty := .boolean) rfl (by decide) (by decide) dX5_readPiece_83)))))))))))))))))) (sd_iload_n (i := 1) rfl dX5_readPiece_10 (sd_bipush (v := 8) (by decide) dX5_readPiece_11 (sd_icmp_lt (tgt := 18) (by decide) dX5_readPiece_13 (sd_aload_n (i := 0) rfl dX5_readPiece_18 (sd_callV (Y' := YX5_take) (mc' := 0) (ms' := 0) (n := 0) clsX5.1 mw_698 mw_700 mw_7 mw_102 mw_701 rfl (okmX5_take) (by decide) (Nat.le_refl _) (by decide) (by decide) dX5_readPiece_19 (sd_aload_n (i := 0) rfl dX5_readPiece_22 (sd_iload_n (i := 1) rfl dX5_readPiece_23 (sd_iconst (v := 1) (by decide) dX5_readPiece_24 (sd_iadd dX5_readPiece_25 (sd_iconst (v := 0) (by decide) dX5_readPiece_26 (sd_callV (Y' := YX5_readSum) (mc' := 0) (ms' := 0) (n := 2) clsX5.1 mw_702 mw_704 mw_8 mw_102 mw_705 rfl (okmX5_readSum) (by decide) (Nat.le_refl _) (by decide) (by decide) dX5_readPiece_27 (sd_if_eq (tgt := 43) (by decide) dX5_readPiece_30 (sd_iconst (v := 0) (by decide) dX5_readPiece_43 (sd_iret (ty := .boolean) rfl (by decide) (by decide) dX5_readPiece_44)) (sd_aload_n (i := 0) rfl dX5_readPiece_33 (sd_sipush (v := 193) (by decide) dX5_readPiece_34 (sd_callV (Y' := YX5_sees) (mc' := 0) (ms' := 0) (n := 1) clsX5.1 mw_710 mw_712 mw_10 mw_102 mw_713 rfl (okmX5_sees) (by decide) (Nat.le_refl _) (by decide) (by decide) dX5_readPiece_37 (sd_if_ne (tgt := 45) (by decide) dX5_readPiece_40 (sd_aload_n (i := 0) rfl dX5_readPiece_45 (sd_callV (Y' := YX5_take) (mc' := 0) (ms' := 0) (n := 0) clsX5.1 mw_698 mw_700 mw_7 mw_102 mw_701 rfl (okmX5_take) (by decide) (Nat.le_refl _) (by decide) (by decide) dX5_readPiece_46 (sd_iconst (v := 1) (by decide) dX5_readPiece_49 (sd_iret (ty := .boolean) rfl (by decide) (by decide) dX5_readPiece_50)))) (sd_iconst (v := 0) (by decide) dX5_readPiece_43 (sd_iret (ty := .boolean) rfl (by decide) (by decide) dX5_readPiece_44))))))))))))))) (sd_iconst (v := 0) (by decide) dX5_readPiece_16 (sd_iret (ty := .boolean) rfl (by decide) (by decide) dX5_readPiece_17)))))))) : Sd l E YX5_readPiece (d + 1) 0 0 Q 0 0 0 (bX5_readPiece_0 l E d Q)) ls st h hB
def bX5_readPiece_106 (l : Launch) (E : Ev) (d : Nat) (Q : Option Value → Hp → Prop) : Kt := k_iload 2 (k_push (.int 18) (k_icmp_ne (k_iload 2 (k_push (.int 8) (k_isub (Go l E YX5_readPiece (d + 1) 0 0 Q 0 0 128)))) (k_aload 0 (k_getR 5 12 1 (k_aload 0 (k_getI 5 12 4 (k_iaload (Go l E YX5_readPiece (d + 1) 0 0 Q 0 0 128))))))))
set_option maxRecDepth 100000 in
set_option maxHeartbeats 4000000 in
theorem gX5_readPiece_106 {l : Launch} {E : Ev} {d : Nat} {Q : Option Value → Hp → Prop} {ls : Lv} {st : List Value} {h : Hp} (hB : bX5_readPiece_106 l E d Q ls st h) : Go l E YX5_readPiece (d + 1) 0 0 Q 0 0 106 ls st h :=
  (sd_iload_n (i := 2) rfl dX5_readPiece_106 (sd_bipush (v := 18) (by decide) dX5_readPiece_107 (sd_icmp_ne (tgt := 124) (by decide) dX5_readPiece_109 (sd_iload_n (i := 2) rfl dX5_readPiece_124 (sd_bipush (v := 8) (by decide) dX5_readPiece_125 (sd_isub dX5_readPiece_127 (Sd.go)))) (sd_aload_n (i := 0) rfl dX5_readPiece_112 (sd_getR clsX5 (f := 1) (by decide) (fun _ _ _ => rfl) mw_223 dX5_readPiece_113 (sd_aload_n (i := 0) rfl dX5_readPiece_116 (sd_getI clsX5 (f := 4) (by decide) (fun _ _ _ => rfl) mw_226 dX5_readPiece_117 (sd_iaload dX5_readPiece_120 (sd_goto (tgt := 128) (by decide) dX5_readPiece_121 (Sd.go))))))))) : Sd l E YX5_readPiece (d + 1) 0 0 Q 0 0 106 (bX5_readPiece_106 l E d Q)) ls st h hB
def bX5_readPiece_128 (l : Launch) (E : Ev) (d : Nat) (Q : Option Value → Hp → Prop) : Kt := k_callV l E 5 12 YX5_addStep d 0 0 2 (k_aload 0 (k_callV l E 5 12 YX5_take d 0 0 0 (k_push (.int 1) (k_iret .boolean Q))))
set_option maxRecDepth 100000 in
set_option maxHeartbeats 4000000 in
theorem gX5_readPiece_128 {l : Launch} {E : Ev} {d : Nat} {Q : Option Value → Hp → Prop} {ls : Lv} {st : List Value} {h : Hp} (hB : bX5_readPiece_128 l E d Q ls st h) : Go l E YX5_readPiece (d + 1) 0 0 Q 0 0 128 ls st h :=
  (sd_callV (Y' := YX5_addStep) (mc' := 0) (ms' := 0) (n := 2) clsX5.1 mw_714 mw_716 mw_11 mw_102 mw_717 rfl (okmX5_addStep) (by decide) (Nat.le_refl _) (by decide) (by decide) dX5_readPiece_128 (sd_aload_n (i := 0) rfl dX5_readPiece_131 (sd_callV (Y' := YX5_take) (mc' := 0) (ms' := 0) (n := 0) clsX5.1 mw_698 mw_700 mw_7 mw_102 mw_701 rfl (okmX5_take) (by decide) (Nat.le_refl _) (by decide) (by decide) dX5_readPiece_132 (sd_iconst (v := 1) (by decide) dX5_readPiece_135 (sd_iret (ty := .boolean) rfl (by decide) (by decide) dX5_readPiece_136)))) : Sd l E YX5_readPiece (d + 1) 0 0 Q 0 0 128 (bX5_readPiece_128 l E d Q)) ls st h hB
theorem eX5_readPiece {l : Launch} {E : Ev} {d : Nat} {Q : Option Value → Hp → Prop} {h : Hp} {a0 : Nat} {x1 : Int32} (hk : Go l E YX5_readPiece d 0 0 Q 0 0 0 [some (.ref a0), some (.int x1), none] [] h) : GoM l E YX5_readPiece d 0 0 [.ref a0, .int x1] h Q := GoM.of (by decide +kernel) rfl (by simp [entA, YX5_readPiece]) hk
