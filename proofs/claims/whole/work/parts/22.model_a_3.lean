theorem dX9_reckon_0 : decode cX9_reckon 0 = .ok (.iload_n 1, 1) := by decide +kernel
theorem dX9_reckon_1 : decode cX9_reckon 1 = .ok (.tableswitch 112 20 25 #[39, 44, 49, 54, 86, 99], 39) := by decide +kernel
theorem dX9_reckon_40 : decode cX9_reckon 40 = .ok (.lload_n 2, 1) := by decide +kernel
theorem dX9_reckon_41 : decode cX9_reckon 41 = .ok (.lload 4, 2) := by decide +kernel
theorem dX9_reckon_43 : decode cX9_reckon 43 = .ok (.ladd, 1) := by decide +kernel
theorem dX9_reckon_44 : decode cX9_reckon 44 = .ok (.lreturn, 1) := by decide +kernel
theorem dX9_reckon_45 : decode cX9_reckon 45 = .ok (.lload_n 2, 1) := by decide +kernel
theorem dX9_reckon_46 : decode cX9_reckon 46 = .ok (.lload 4, 2) := by decide +kernel
theorem dX9_reckon_48 : decode cX9_reckon 48 = .ok (.lsub, 1) := by decide +kernel
theorem dX9_reckon_49 : decode cX9_reckon 49 = .ok (.lreturn, 1) := by decide +kernel
theorem dX9_reckon_50 : decode cX9_reckon 50 = .ok (.lload_n 2, 1) := by decide +kernel
theorem dX9_reckon_51 : decode cX9_reckon 51 = .ok (.lload 4, 2) := by decide +kernel
theorem dX9_reckon_53 : decode cX9_reckon 53 = .ok (.lmul, 1) := by decide +kernel
theorem dX9_reckon_54 : decode cX9_reckon 54 = .ok (.lreturn, 1) := by decide +kernel
theorem dX9_reckon_55 : decode cX9_reckon 55 = .ok (.aload_n 0, 1) := by decide +kernel
theorem dX9_reckon_56 : decode cX9_reckon 56 = .ok (.lload 4, 2) := by decide +kernel
theorem dX9_reckon_58 : decode cX9_reckon 58 = .ok (.lconst 0, 1) := by decide +kernel
theorem dX9_reckon_59 : decode cX9_reckon 59 = .ok (.lcmp, 1) := by decide +kernel
theorem dX9_reckon_60 : decode cX9_reckon 60 = .ok (.ifCond .ne 7, 3) := by decide +kernel
theorem dX9_reckon_63 : decode cX9_reckon 63 = .ok (.iconst 1, 1) := by decide +kernel
theorem dX9_reckon_64 : decode cX9_reckon 64 = .ok (.goto 4, 3) := by decide +kernel
theorem dX9_reckon_67 : decode cX9_reckon 67 = .ok (.iconst 0, 1) := by decide +kernel
theorem dX9_reckon_68 : decode cX9_reckon 68 = .ok (.putfield 316, 3) := by decide +kernel
theorem dX9_reckon_71 : decode cX9_reckon 71 = .ok (.aload_n 0, 1) := by decide +kernel
theorem dX9_reckon_72 : decode cX9_reckon 72 = .ok (.getfield 316, 3) := by decide +kernel
theorem dX9_reckon_75 : decode cX9_reckon 75 = .ok (.ifCond .eq 7, 3) := by decide +kernel
theorem dX9_reckon_78 : decode cX9_reckon 78 = .ok (.lconst 0, 1) := by decide +kernel
theorem dX9_reckon_79 : decode cX9_reckon 79 = .ok (.goto 7, 3) := by decide +kernel
theorem dX9_reckon_82 : decode cX9_reckon 82 = .ok (.lload_n 2, 1) := by decide +kernel
theorem dX9_reckon_83 : decode cX9_reckon 83 = .ok (.lload 4, 2) := by decide +kernel
theorem dX9_reckon_85 : decode cX9_reckon 85 = .ok (.ldiv, 1) := by decide +kernel
theorem dX9_reckon_86 : decode cX9_reckon 86 = .ok (.lreturn, 1) := by decide +kernel
theorem dX9_reckon_87 : decode cX9_reckon 87 = .ok (.lload_n 2, 1) := by decide +kernel
theorem dX9_reckon_88 : decode cX9_reckon 88 = .ok (.lload 4, 2) := by decide +kernel
theorem dX9_reckon_90 : decode cX9_reckon 90 = .ok (.lcmp, 1) := by decide +kernel
theorem dX9_reckon_91 : decode cX9_reckon 91 = .ok (.ifCond .ge 7, 3) := by decide +kernel
theorem dX9_reckon_94 : decode cX9_reckon 94 = .ok (.lconst 1, 1) := by decide +kernel
theorem dX9_reckon_95 : decode cX9_reckon 95 = .ok (.goto 4, 3) := by decide +kernel
theorem dX9_reckon_98 : decode cX9_reckon 98 = .ok (.lconst 0, 1) := by decide +kernel
theorem dX9_reckon_99 : decode cX9_reckon 99 = .ok (.lreturn, 1) := by decide +kernel
theorem dX9_reckon_100 : decode cX9_reckon 100 = .ok (.lload_n 2, 1) := by decide +kernel
theorem dX9_reckon_101 : decode cX9_reckon 101 = .ok (.lload 4, 2) := by decide +kernel
theorem dX9_reckon_103 : decode cX9_reckon 103 = .ok (.lcmp, 1) := by decide +kernel
theorem dX9_reckon_104 : decode cX9_reckon 104 = .ok (.ifCond .le 7, 3) := by decide +kernel
theorem dX9_reckon_107 : decode cX9_reckon 107 = .ok (.lconst 1, 1) := by decide +kernel
theorem dX9_reckon_108 : decode cX9_reckon 108 = .ok (.goto 4, 3) := by decide +kernel
theorem dX9_reckon_111 : decode cX9_reckon 111 = .ok (.lconst 0, 1) := by decide +kernel
theorem dX9_reckon_112 : decode cX9_reckon 112 = .ok (.lreturn, 1) := by decide +kernel
theorem dX9_reckon_113 : decode cX9_reckon 113 = .ok (.lload_n 2, 1) := by decide +kernel
theorem dX9_reckon_114 : decode cX9_reckon 114 = .ok (.lload 4, 2) := by decide +kernel
theorem dX9_reckon_116 : decode cX9_reckon 116 = .ok (.lcmp, 1) := by decide +kernel
theorem dX9_reckon_117 : decode cX9_reckon 117 = .ok (.ifCond .ne 7, 3) := by decide +kernel
theorem dX9_reckon_120 : decode cX9_reckon 120 = .ok (.lconst 1, 1) := by decide +kernel
theorem dX9_reckon_121 : decode cX9_reckon 121 = .ok (.goto 4, 3) := by decide +kernel
theorem dX9_reckon_124 : decode cX9_reckon 124 = .ok (.lconst 0, 1) := by decide +kernel
theorem dX9_reckon_125 : decode cX9_reckon 125 = .ok (.lreturn, 1) := by decide +kernel
def bX9_reckon_0 (l : Launch) (E : Ev) (d : Nat) (Q : Option Value → Hp → Prop) : Kt := k_iload 1 (k_sw [(20, (k_lload 2 (k_lload 4 (k_ladd (k_lret Q))))), (21, (k_lload 2 (k_lload 4 (k_lsub (k_lret Q))))), (22, (k_lload 2 (k_lload 4 (k_lmul (k_lret Q))))), (23, (k_aload 0 (k_lload 4 (k_push (.long 0) (k_lcmp (k_if_ne (k_push (.int 0) (Go l E YX9_reckon (d + 1) 0 0 Q 0 0 68)) (k_push (.int 1) (Go l E YX9_reckon (d + 1) 0 0 Q 0 0 68)))))))), (24, (k_lload 2 (k_lload 4 (k_lcmp (k_if_ge (k_push (.long 0) (k_lret Q)) (k_push (.long 1) (k_lret Q))))))), (25, (k_lload 2 (k_lload 4 (k_lcmp (k_if_le (k_push (.long 0) (k_lret Q)) (k_push (.long 1) (k_lret Q)))))))] (k_lload 2 (k_lload 4 (k_lcmp (k_if_ne (k_push (.long 0) (k_lret Q)) (k_push (.long 1) (k_lret Q)))))))
set_option maxRecDepth 100000 in
set_option maxHeartbeats 4000000 in
theorem gX9_reckon_0 {l : Launch} {E : Ev} {d : Nat} {Q : Option Value → Hp → Prop} {ls : Lv} {st : List Value} {h : Hp} (hB : bX9_reckon_0 l E d Q ls st h) : Go l E YX9_reckon (d + 1) 0 0 Q 0 0 0 ls st h :=
  (sd_iload_n (i := 1) rfl dX9_reckon_0 (sd_table dX9_reckon_1 (dt := 113) (by decide) (sd_lload_n (i := 2) rfl dX9_reckon_113 (sd_lload (n := 4) dX9_reckon_114 (sd_lcmp dX9_reckon_116 (sd_if_ne (tgt := 124) (by decide) dX9_reckon_117 (sd_lconst (v := 0) (by decide) dX9_reckon_124 (sd_lret rfl (by decide) (by decide) dX9_reckon_125)) (sd_lconst (v := 1) (by decide) dX9_reckon_120 (sd_goto (tgt := 125) (by decide) dX9_reckon_121 (sd_lret rfl (by decide) (by decide) dX9_reckon_125))))))) rfl (tb_all (tb_cons (off := 39) (tgt := 40) (by decide) rfl (by decide) (sd_lload_n (i := 2) rfl dX9_reckon_40 (sd_lload (n := 4) dX9_reckon_41 (sd_ladd dX9_reckon_43 (sd_lret rfl (by decide) (by decide) dX9_reckon_44)))) (tb_cons (off := 44) (tgt := 45) (by decide) rfl (by decide) (sd_lload_n (i := 2) rfl dX9_reckon_45 (sd_lload (n := 4) dX9_reckon_46 (sd_lsub dX9_reckon_48 (sd_lret rfl (by decide) (by decide) dX9_reckon_49)))) (tb_cons (off := 49) (tgt := 50) (by decide) rfl (by decide) (sd_lload_n (i := 2) rfl dX9_reckon_50 (sd_lload (n := 4) dX9_reckon_51 (sd_lmul dX9_reckon_53 (sd_lret rfl (by decide) (by decide) dX9_reckon_54)))) (tb_cons (off := 54) (tgt := 55) (by decide) rfl (by decide) (sd_aload_n (i := 0) rfl dX9_reckon_55 (sd_lload (n := 4) dX9_reckon_56 (sd_lconst (v := 0) (by decide) dX9_reckon_58 (sd_lcmp dX9_reckon_59 (sd_if_ne (tgt := 67) (by decide) dX9_reckon_60 (sd_iconst (v := 0) (by decide) dX9_reckon_67 (Sd.go)) (sd_iconst (v := 1) (by decide) dX9_reckon_63 (sd_goto (tgt := 68) (by decide) dX9_reckon_64 (Sd.go)))))))) (tb_cons (off := 86) (tgt := 87) (by decide) rfl (by decide) (sd_lload_n (i := 2) rfl dX9_reckon_87 (sd_lload (n := 4) dX9_reckon_88 (sd_lcmp dX9_reckon_90 (sd_if_ge (tgt := 98) (by decide) dX9_reckon_91 (sd_lconst (v := 0) (by decide) dX9_reckon_98 (sd_lret rfl (by decide) (by decide) dX9_reckon_99)) (sd_lconst (v := 1) (by decide) dX9_reckon_94 (sd_goto (tgt := 99) (by decide) dX9_reckon_95 (sd_lret rfl (by decide) (by decide) dX9_reckon_99))))))) (tb_cons (off := 99) (tgt := 100) (by decide) rfl (by decide) (sd_lload_n (i := 2) rfl dX9_reckon_100 (sd_lload (n := 4) dX9_reckon_101 (sd_lcmp dX9_reckon_103 (sd_if_le (tgt := 111) (by decide) dX9_reckon_104 (sd_lconst (v := 0) (by decide) dX9_reckon_111 (sd_lret rfl (by decide) (by decide) dX9_reckon_112)) (sd_lconst (v := 1) (by decide) dX9_reckon_107 (sd_goto (tgt := 112) (by decide) dX9_reckon_108 (sd_lret rfl (by decide) (by decide) dX9_reckon_112))))))) (tb_nil))))))))) : Sd l E YX9_reckon (d + 1) 0 0 Q 0 0 0 (bX9_reckon_0 l E d Q)) ls st h hB
def bX9_reckon_68 (l : Launch) (E : Ev) (d : Nat) (Q : Option Value → Hp → Prop) : Kt := k_putZ 9 55 30 (k_aload 0 (k_getI 9 55 30 (k_if_eq (k_lload 2 (k_lload 4 (k_ldiv (k_lret Q)))) (k_push (.long 0) (k_lret Q)))))
set_option maxRecDepth 100000 in
set_option maxHeartbeats 4000000 in
theorem gX9_reckon_68 {l : Launch} {E : Ev} {d : Nat} {Q : Option Value → Hp → Prop} {ls : Lv} {st : List Value} {h : Hp} (hB : bX9_reckon_68 l E d Q ls st h) : Go l E YX9_reckon (d + 1) 0 0 Q 0 0 68 ls st h :=
  (sd_putZ clsX9 (f := 30) (by decide) (fun _ _ _ => rfl) rfl (Or.inl rfl) mw_1208 dX9_reckon_68 (sd_aload_n (i := 0) rfl dX9_reckon_71 (sd_getI clsX9 (f := 30) (by decide) (fun _ _ _ => rfl) mw_1208 dX9_reckon_72 (sd_if_eq (tgt := 82) (by decide) dX9_reckon_75 (sd_lload_n (i := 2) rfl dX9_reckon_82 (sd_lload (n := 4) dX9_reckon_83 (sd_ldiv dX9_reckon_85 (sd_lret rfl (by decide) (by decide) dX9_reckon_86)))) (sd_lconst (v := 0) (by decide) dX9_reckon_78 (sd_goto (tgt := 86) (by decide) dX9_reckon_79 (sd_lret rfl (by decide) (by decide) dX9_reckon_86)))))) : Sd l E YX9_reckon (d + 1) 0 0 Q 0 0 68 (bX9_reckon_68 l E d Q)) ls st h hB
theorem eX9_reckon {l : Launch} {E : Ev} {d : Nat} {Q : Option Value → Hp → Prop} {h : Hp} {a0 : Nat} {x1 : Int32} {x2 : Int64} {x3 : Int64} (hk : Go l E YX9_reckon d 0 0 Q 0 0 0 [some (.ref a0), some (.int x1), some (.long x2), none, some (.long x3), none] [] h) : GoM l E YX9_reckon d 0 0 [.ref a0, .int x1, .long x2, .long x3] h Q := GoM.of (by decide +kernel) rfl (by simp [entA, YX9_reckon]) hk
theorem dX9_reckonAll_0 : decode cX9_reckonAll 0 = .ok (.aload_n 0, 1) := by decide +kernel
theorem dX9_reckonAll_1 : decode cX9_reckonAll 1 = .ok (.iconst 0, 1) := by decide +kernel
theorem dX9_reckonAll_2 : decode cX9_reckonAll 2 = .ok (.putfield 316, 3) := by decide +kernel
theorem dX9_reckonAll_5 : decode cX9_reckonAll 5 = .ok (.iconst 0, 1) := by decide +kernel
theorem dX9_reckonAll_6 : decode cX9_reckonAll 6 = .ok (.istore_n 3, 1) := by decide +kernel
theorem dX9_reckonAll_7 : decode cX9_reckonAll 7 = .ok (.iload_n 1, 1) := by decide +kernel
theorem dX9_reckonAll_8 : decode cX9_reckonAll 8 = .ok (.istore 4, 2) := by decide +kernel
theorem dX9_reckonAll_10 : decode cX9_reckonAll 10 = .ok (.iload 4, 2) := by decide +kernel
theorem dX9_reckonAll_12 : decode cX9_reckonAll 12 = .ok (.iload_n 2, 1) := by decide +kernel
theorem dX9_reckonAll_13 : decode cX9_reckonAll 13 = .ok (.if_icmp .ge 232, 3) := by decide +kernel
theorem dX9_reckonAll_16 : decode cX9_reckonAll 16 = .ok (.aload_n 0, 1) := by decide +kernel
theorem dX9_reckonAll_17 : decode cX9_reckonAll 17 = .ok (.getfield 316, 3) := by decide +kernel
theorem dX9_reckonAll_20 : decode cX9_reckonAll 20 = .ok (.ifCond .ne 225, 3) := by decide +kernel
theorem dX9_reckonAll_23 : decode cX9_reckonAll 23 = .ok (.aload_n 0, 1) := by decide +kernel
theorem dX9_reckonAll_24 : decode cX9_reckonAll 24 = .ok (.getfield 13, 3) := by decide +kernel
theorem dX9_reckonAll_27 : decode cX9_reckonAll 27 = .ok (.aload_n 0, 1) := by decide +kernel
theorem dX9_reckonAll_28 : decode cX9_reckonAll 28 = .ok (.getfield 319, 3) := by decide +kernel
theorem dX9_reckonAll_31 : decode cX9_reckonAll 31 = .ok (.bipush 98, 2) := by decide +kernel
theorem dX9_reckonAll_33 : decode cX9_reckonAll 33 = .ok (.iadd, 1) := by decide +kernel
theorem dX9_reckonAll_34 : decode cX9_reckonAll 34 = .ok (.iconst 2, 1) := by decide +kernel
theorem dX9_reckonAll_35 : decode cX9_reckonAll 35 = .ok (.iload 4, 2) := by decide +kernel
theorem dX9_reckonAll_37 : decode cX9_reckonAll 37 = .ok (.imul, 1) := by decide +kernel
theorem dX9_reckonAll_38 : decode cX9_reckonAll 38 = .ok (.iadd, 1) := by decide +kernel
theorem dX9_reckonAll_39 : decode cX9_reckonAll 39 = .ok (.iaload, 1) := by decide +kernel
theorem dX9_reckonAll_40 : decode cX9_reckonAll 40 = .ok (.istore 5, 2) := by decide +kernel
theorem dX9_reckonAll_42 : decode cX9_reckonAll 42 = .ok (.aload_n 0, 1) := by decide +kernel
theorem dX9_reckonAll_43 : decode cX9_reckonAll 43 = .ok (.getfield 13, 3) := by decide +kernel
theorem dX9_reckonAll_46 : decode cX9_reckonAll 46 = .ok (.aload_n 0, 1) := by decide +kernel
theorem dX9_reckonAll_47 : decode cX9_reckonAll 47 = .ok (.getfield 319, 3) := by decide +kernel
theorem dX9_reckonAll_50 : decode cX9_reckonAll 50 = .ok (.bipush 98, 2) := by decide +kernel
theorem dX9_reckonAll_52 : decode cX9_reckonAll 52 = .ok (.iadd, 1) := by decide +kernel
theorem dX9_reckonAll_53 : decode cX9_reckonAll 53 = .ok (.iconst 2, 1) := by decide +kernel
theorem dX9_reckonAll_54 : decode cX9_reckonAll 54 = .ok (.iload 4, 2) := by decide +kernel
theorem dX9_reckonAll_56 : decode cX9_reckonAll 56 = .ok (.imul, 1) := by decide +kernel
theorem dX9_reckonAll_57 : decode cX9_reckonAll 57 = .ok (.iadd, 1) := by decide +kernel
theorem dX9_reckonAll_58 : decode cX9_reckonAll 58 = .ok (.iconst 1, 1) := by decide +kernel
theorem dX9_reckonAll_59 : decode cX9_reckonAll 59 = .ok (.iadd, 1) := by decide +kernel
theorem dX9_reckonAll_60 : decode cX9_reckonAll 60 = .ok (.iaload, 1) := by decide +kernel
theorem dX9_reckonAll_61 : decode cX9_reckonAll 61 = .ok (.istore 6, 2) := by decide +kernel
theorem dX9_reckonAll_63 : decode cX9_reckonAll 63 = .ok (.iinc 4 1, 3) := by decide +kernel
theorem dX9_reckonAll_66 : decode cX9_reckonAll 66 = .ok (.iload 5, 2) := by decide +kernel
theorem dX9_reckonAll_68 : decode cX9_reckonAll 68 = .ok (.bipush 20, 2) := by decide +kernel
theorem dX9_reckonAll_70 : decode cX9_reckonAll 70 = .ok (.if_icmp .ge 33, 3) := by decide +kernel
theorem dX9_reckonAll_73 : decode cX9_reckonAll 73 = .ok (.aload_n 0, 1) := by decide +kernel
theorem dX9_reckonAll_74 : decode cX9_reckonAll 74 = .ok (.getfield 83, 3) := by decide +kernel
theorem dX9_reckonAll_77 : decode cX9_reckonAll 77 = .ok (.iload_n 3, 1) := by decide +kernel
theorem dX9_reckonAll_78 : decode cX9_reckonAll 78 = .ok (.iload 5, 2) := by decide +kernel
theorem dX9_reckonAll_80 : decode cX9_reckonAll 80 = .ok (.ifCond .ne 9, 3) := by decide +kernel
theorem dX9_reckonAll_83 : decode cX9_reckonAll 83 = .ok (.iload 6, 2) := by decide +kernel
theorem dX9_reckonAll_85 : decode cX9_reckonAll 85 = .ok (.i2l, 1) := by decide +kernel
theorem dX9_reckonAll_86 : decode cX9_reckonAll 86 = .ok (.goto 10, 3) := by decide +kernel
theorem dX9_reckonAll_89 : decode cX9_reckonAll 89 = .ok (.aload_n 0, 1) := by decide +kernel
theorem dX9_reckonAll_90 : decode cX9_reckonAll 90 = .ok (.getfield 80, 3) := by decide +kernel
theorem dX9_reckonAll_93 : decode cX9_reckonAll 93 = .ok (.iload 5, 2) := by decide +kernel
theorem dX9_reckonAll_95 : decode cX9_reckonAll 95 = .ok (.laload, 1) := by decide +kernel
theorem dX9_reckonAll_96 : decode cX9_reckonAll 96 = .ok (.lastore, 1) := by decide +kernel
theorem dX9_reckonAll_97 : decode cX9_reckonAll 97 = .ok (.iinc 3 1, 3) := by decide +kernel
theorem dX9_reckonAll_100 : decode cX9_reckonAll 100 = .ok (.goto 142, 3) := by decide +kernel
theorem dX9_reckonAll_103 : decode cX9_reckonAll 103 = .ok (.iload 5, 2) := by decide +kernel
theorem dX9_reckonAll_105 : decode cX9_reckonAll 105 = .ok (.bipush 27, 2) := by decide +kernel
theorem dX9_reckonAll_107 : decode cX9_reckonAll 107 = .ok (.if_icmp .ge 73, 3) := by decide +kernel
theorem dX9_reckonAll_110 : decode cX9_reckonAll 110 = .ok (.iinc 3 (-1), 3) := by decide +kernel
theorem dX9_reckonAll_113 : decode cX9_reckonAll 113 = .ok (.aload_n 0, 1) := by decide +kernel
theorem dX9_reckonAll_114 : decode cX9_reckonAll 114 = .ok (.getfield 83, 3) := by decide +kernel
theorem dX9_reckonAll_117 : decode cX9_reckonAll 117 = .ok (.iload_n 3, 1) := by decide +kernel
theorem dX9_reckonAll_118 : decode cX9_reckonAll 118 = .ok (.iconst 1, 1) := by decide +kernel
theorem dX9_reckonAll_119 : decode cX9_reckonAll 119 = .ok (.isub, 1) := by decide +kernel
theorem dX9_reckonAll_120 : decode cX9_reckonAll 120 = .ok (.aload_n 0, 1) := by decide +kernel
theorem dX9_reckonAll_121 : decode cX9_reckonAll 121 = .ok (.iload 5, 2) := by decide +kernel
theorem dX9_reckonAll_123 : decode cX9_reckonAll 123 = .ok (.aload_n 0, 1) := by decide +kernel
theorem dX9_reckonAll_124 : decode cX9_reckonAll 124 = .ok (.getfield 83, 3) := by decide +kernel
theorem dX9_reckonAll_127 : decode cX9_reckonAll 127 = .ok (.iload_n 3, 1) := by decide +kernel
theorem dX9_reckonAll_128 : decode cX9_reckonAll 128 = .ok (.iconst 1, 1) := by decide +kernel
theorem dX9_reckonAll_129 : decode cX9_reckonAll 129 = .ok (.isub, 1) := by decide +kernel
theorem dX9_reckonAll_130 : decode cX9_reckonAll 130 = .ok (.laload, 1) := by decide +kernel
theorem dX9_reckonAll_131 : decode cX9_reckonAll 131 = .ok (.aload_n 0, 1) := by decide +kernel
theorem dX9_reckonAll_132 : decode cX9_reckonAll 132 = .ok (.getfield 83, 3) := by decide +kernel
theorem dX9_reckonAll_135 : decode cX9_reckonAll 135 = .ok (.iload_n 3, 1) := by decide +kernel
theorem dX9_reckonAll_136 : decode cX9_reckonAll 136 = .ok (.laload, 1) := by decide +kernel
theorem dX9_reckonAll_137 : decode cX9_reckonAll 137 = .ok (.invokevirtual 322, 3) := by decide +kernel
theorem dX9_reckonAll_140 : decode cX9_reckonAll 140 = .ok (.lastore, 1) := by decide +kernel
theorem dX9_reckonAll_141 : decode cX9_reckonAll 141 = .ok (.aload_n 0, 1) := by decide +kernel
theorem dX9_reckonAll_142 : decode cX9_reckonAll 142 = .ok (.aload_n 0, 1) := by decide +kernel
theorem dX9_reckonAll_143 : decode cX9_reckonAll 143 = .ok (.getfield 316, 3) := by decide +kernel
theorem dX9_reckonAll_146 : decode cX9_reckonAll 146 = .ok (.ifCond .ne 23, 3) := by decide +kernel
theorem dX9_reckonAll_149 : decode cX9_reckonAll 149 = .ok (.aload_n 0, 1) := by decide +kernel
theorem dX9_reckonAll_150 : decode cX9_reckonAll 150 = .ok (.getfield 83, 3) := by decide +kernel
theorem dX9_reckonAll_153 : decode cX9_reckonAll 153 = .ok (.iload_n 3, 1) := by decide +kernel
theorem dX9_reckonAll_154 : decode cX9_reckonAll 154 = .ok (.iconst 1, 1) := by decide +kernel
theorem dX9_reckonAll_155 : decode cX9_reckonAll 155 = .ok (.isub, 1) := by decide +kernel
theorem dX9_reckonAll_156 : decode cX9_reckonAll 156 = .ok (.laload, 1) := by decide +kernel
theorem dX9_reckonAll_157 : decode cX9_reckonAll 157 = .ok (.ldc2_w 326, 3) := by decide +kernel
theorem dX9_reckonAll_160 : decode cX9_reckonAll 160 = .ok (.ldc2_w 328, 3) := by decide +kernel
theorem dX9_reckonAll_163 : decode cX9_reckonAll 163 = .ok (.invokestatic 133, 3) := by decide +kernel
theorem dX9_reckonAll_166 : decode cX9_reckonAll 166 = .ok (.ifCond .ne 7, 3) := by decide +kernel
theorem dX9_reckonAll_169 : decode cX9_reckonAll 169 = .ok (.iconst 1, 1) := by decide +kernel
theorem dX9_reckonAll_170 : decode cX9_reckonAll 170 = .ok (.goto 4, 3) := by decide +kernel
theorem dX9_reckonAll_173 : decode cX9_reckonAll 173 = .ok (.iconst 0, 1) := by decide +kernel
theorem dX9_reckonAll_174 : decode cX9_reckonAll 174 = .ok (.putfield 316, 3) := by decide +kernel
theorem dX9_reckonAll_177 : decode cX9_reckonAll 177 = .ok (.goto 65, 3) := by decide +kernel
theorem dX9_reckonAll_180 : decode cX9_reckonAll 180 = .ok (.iload 5, 2) := by decide +kernel
theorem dX9_reckonAll_182 : decode cX9_reckonAll 182 = .ok (.bipush 27, 2) := by decide +kernel
theorem dX9_reckonAll_184 : decode cX9_reckonAll 184 = .ok (.if_icmp .ne 24, 3) := by decide +kernel
theorem dX9_reckonAll_187 : decode cX9_reckonAll 187 = .ok (.aload_n 0, 1) := by decide +kernel
theorem dX9_reckonAll_188 : decode cX9_reckonAll 188 = .ok (.getfield 83, 3) := by decide +kernel
theorem dX9_reckonAll_191 : decode cX9_reckonAll 191 = .ok (.iload_n 3, 1) := by decide +kernel
theorem dX9_reckonAll_192 : decode cX9_reckonAll 192 = .ok (.iconst 1, 1) := by decide +kernel
theorem dX9_reckonAll_193 : decode cX9_reckonAll 193 = .ok (.isub, 1) := by decide +kernel
theorem dX9_reckonAll_194 : decode cX9_reckonAll 194 = .ok (.lconst 1, 1) := by decide +kernel
theorem dX9_reckonAll_195 : decode cX9_reckonAll 195 = .ok (.aload_n 0, 1) := by decide +kernel
theorem dX9_reckonAll_196 : decode cX9_reckonAll 196 = .ok (.getfield 83, 3) := by decide +kernel
theorem dX9_reckonAll_199 : decode cX9_reckonAll 199 = .ok (.iload_n 3, 1) := by decide +kernel
theorem dX9_reckonAll_200 : decode cX9_reckonAll 200 = .ok (.iconst 1, 1) := by decide +kernel
theorem dX9_reckonAll_201 : decode cX9_reckonAll 201 = .ok (.isub, 1) := by decide +kernel
theorem dX9_reckonAll_202 : decode cX9_reckonAll 202 = .ok (.laload, 1) := by decide +kernel
theorem dX9_reckonAll_203 : decode cX9_reckonAll 203 = .ok (.lsub, 1) := by decide +kernel
theorem dX9_reckonAll_204 : decode cX9_reckonAll 204 = .ok (.lastore, 1) := by decide +kernel
theorem dX9_reckonAll_205 : decode cX9_reckonAll 205 = .ok (.goto 37, 3) := by decide +kernel
theorem dX9_reckonAll_208 : decode cX9_reckonAll 208 = .ok (.aload_n 0, 1) := by decide +kernel
theorem dX9_reckonAll_209 : decode cX9_reckonAll 209 = .ok (.getfield 83, 3) := by decide +kernel
theorem dX9_reckonAll_212 : decode cX9_reckonAll 212 = .ok (.iload_n 3, 1) := by decide +kernel
theorem dX9_reckonAll_213 : decode cX9_reckonAll 213 = .ok (.iconst 1, 1) := by decide +kernel
theorem dX9_reckonAll_214 : decode cX9_reckonAll 214 = .ok (.isub, 1) := by decide +kernel
theorem dX9_reckonAll_215 : decode cX9_reckonAll 215 = .ok (.laload, 1) := by decide +kernel
theorem dX9_reckonAll_216 : decode cX9_reckonAll 216 = .ok (.iload 5, 2) := by decide +kernel
theorem dX9_reckonAll_218 : decode cX9_reckonAll 218 = .ok (.bipush 28, 2) := by decide +kernel
theorem dX9_reckonAll_220 : decode cX9_reckonAll 220 = .ok (.if_icmp .ne 7, 3) := by decide +kernel
theorem dX9_reckonAll_223 : decode cX9_reckonAll 223 = .ok (.lconst 0, 1) := by decide +kernel
theorem dX9_reckonAll_224 : decode cX9_reckonAll 224 = .ok (.goto 4, 3) := by decide +kernel
theorem dX9_reckonAll_227 : decode cX9_reckonAll 227 = .ok (.lconst 1, 1) := by decide +kernel
theorem dX9_reckonAll_228 : decode cX9_reckonAll 228 = .ok (.lcmp, 1) := by decide +kernel
theorem dX9_reckonAll_229 : decode cX9_reckonAll 229 = .ok (.ifCond .ne 10, 3) := by decide +kernel
theorem dX9_reckonAll_232 : decode cX9_reckonAll 232 = .ok (.iload 6, 2) := by decide +kernel
theorem dX9_reckonAll_234 : decode cX9_reckonAll 234 = .ok (.istore 4, 2) := by decide +kernel
theorem dX9_reckonAll_236 : decode cX9_reckonAll 236 = .ok (.goto 6, 3) := by decide +kernel
theorem dX9_reckonAll_239 : decode cX9_reckonAll 239 = .ok (.iinc 3 (-1), 3) := by decide +kernel
theorem dX9_reckonAll_242 : decode cX9_reckonAll 242 = .ok (.goto (-232), 3) := by decide +kernel
theorem dX9_reckonAll_245 : decode cX9_reckonAll 245 = .ok (.aload_n 0, 1) := by decide +kernel
theorem dX9_reckonAll_246 : decode cX9_reckonAll 246 = .ok (.iload_n 3, 1) := by decide +kernel
theorem dX9_reckonAll_247 : decode cX9_reckonAll 247 = .ok (.ifCond .le 12, 3) := by decide +kernel
theorem dX9_reckonAll_250 : decode cX9_reckonAll 250 = .ok (.aload_n 0, 1) := by decide +kernel
theorem dX9_reckonAll_251 : decode cX9_reckonAll 251 = .ok (.getfield 83, 3) := by decide +kernel
theorem dX9_reckonAll_254 : decode cX9_reckonAll 254 = .ok (.iconst 0, 1) := by decide +kernel
theorem dX9_reckonAll_255 : decode cX9_reckonAll 255 = .ok (.laload, 1) := by decide +kernel
theorem dX9_reckonAll_256 : decode cX9_reckonAll 256 = .ok (.goto 4, 3) := by decide +kernel
theorem dX9_reckonAll_259 : decode cX9_reckonAll 259 = .ok (.lconst 0, 1) := by decide +kernel
theorem dX9_reckonAll_260 : decode cX9_reckonAll 260 = .ok (.putfield 330, 3) := by decide +kernel
theorem dX9_reckonAll_263 : decode cX9_reckonAll 263 = .ok (.return_, 1) := by decide +kernel
def bX9_reckonAll_0 (l : Launch) (E : Ev) (d : Nat) (Q : Option Value → Hp → Prop) : Kt := k_aload 0 (k_push (.int 0) (k_putZ 9 55 30 (k_push (.int 0) (k_istore 3 (k_iload 1 (k_istore 4 (Go l E YX9_reckonAll (d + 1) 0 0 Q 0 0 10)))))))
set_option maxRecDepth 100000 in
set_option maxHeartbeats 4000000 in
theorem gX9_reckonAll_0 {l : Launch} {E : Ev} {d : Nat} {Q : Option Value → Hp → Prop} {ls : Lv} {st : List Value} {h : Hp} (hB : bX9_reckonAll_0 l E d Q ls st h) : Go l E YX9_reckonAll (d + 1) 0 0 Q 0 0 0 ls st h :=
  (sd_aload_n (i := 0) rfl dX9_reckonAll_0 (sd_iconst (v := 0) (by decide) dX9_reckonAll_1 (sd_putZ clsX9 (f := 30) (by decide) (fun _ _ _ => rfl) rfl (Or.inl rfl) mw_1208 dX9_reckonAll_2 (sd_iconst (v := 0) (by decide) dX9_reckonAll_5 (sd_istore_n (i := 3) rfl (by decide) dX9_reckonAll_6 (sd_iload_n (i := 1) rfl dX9_reckonAll_7 (sd_istore (i := 4) (by decide) dX9_reckonAll_8 (Sd.go))))))) : Sd l E YX9_reckonAll (d + 1) 0 0 Q 0 0 0 (bX9_reckonAll_0 l E d Q)) ls st h hB
def bX9_reckonAll_10 (l : Launch) (E : Ev) (d : Nat) (Q : Option Value → Hp → Prop) : Kt := k_iload 4 (k_iload 2 (k_icmp_ge (Go l E YX9_reckonAll (d + 1) 0 0 Q 0 0 245) (k_aload 0 (k_getI 9 55 30 (k_if_ne (Go l E YX9_reckonAll (d + 1) 0 0 Q 0 0 245) (k_aload 0 (k_getR 9 55 3 (k_aload 0 (k_getI 9 55 27 (k_push (.int 98) (k_iadd (k_push (.int 2) (k_iload 4 (k_imul (k_iadd (k_iaload (k_istore 5 (k_aload 0 (k_getR 9 55 3 (k_aload 0 (k_getI 9 55 27 (k_push (.int 98) (k_iadd (k_push (.int 2) (k_iload 4 (k_imul (k_iadd (k_push (.int 1) (k_iadd (k_iaload (k_istore 6 (k_iinc 4 1 (k_iload 5 (k_push (.int 20) (k_icmp_ge (k_iload 5 (k_push (.int 27) (k_icmp_ge (k_iload 5 (k_push (.int 27) (k_icmp_ne (k_aload 0 (k_getR 9 55 29 (k_iload 3 (k_push (.int 1) (k_isub (k_laload (k_iload 5 (k_push (.int 28) (k_icmp_ne (k_push (.long 1) (Go l E YX9_reckonAll (d + 1) 0 0 Q 0 0 228)) (k_push (.long 0) (Go l E YX9_reckonAll (d + 1) 0 0 Q 0 0 228))))))))))) (k_aload 0 (k_getR 9 55 29 (k_iload 3 (k_push (.int 1) (k_isub (k_push (.long 1) (k_aload 0 (k_getR 9 55 29 (k_iload 3 (k_push (.int 1) (k_isub (k_laload (k_lsub (k_lastore (Go l E YX9_reckonAll (d + 1) 0 0 Q 0 0 10)))))))))))))))))) (k_iinc 3 (-1) (k_aload 0 (k_getR 9 55 29 (k_iload 3 (k_push (.int 1) (k_isub (k_aload 0 (k_iload 5 (k_aload 0 (k_getR 9 55 29 (k_iload 3 (k_push (.int 1) (k_isub (k_laload (k_aload 0 (k_getR 9 55 29 (k_iload 3 (k_laload (k_callV l E 9 55 YX9_reckon d 0 0 3 (k_lastore (k_aload 0 (k_aload 0 (k_getI 9 55 30 (k_if_ne (k_push (.int 1) (k_putZ 9 55 30 (Go l E YX9_reckonAll (d + 1) 0 0 Q 0 0 10))) (k_aload 0 (k_getR 9 55 29 (k_iload 3 (k_push (.int 1) (k_isub (k_laload (k_push (.long (-1000000000)) (k_push (.long 1000000000) (k_callS l E YX9_in d 0 0 3 (k_if_ne (k_push (.int 0) (k_putZ 9 55 30 (Go l E YX9_reckonAll (d + 1) 0 0 Q 0 0 10))) (k_push (.int 1) (k_putZ 9 55 30 (Go l E YX9_reckonAll (d + 1) 0 0 Q 0 0 10)))))))))))))))))))))))))))))))))))))))) (k_aload 0 (k_getR 9 55 29 (k_iload 3 (k_iload 5 (k_if_ne (k_aload 0 (k_getR 9 55 28 (k_iload 5 (k_laload (k_lastore (k_iinc 3 1 (Go l E YX9_reckonAll (d + 1) 0 0 Q 0 0 10))))))) (k_iload 6 (k_i2l (k_lastore (k_iinc 3 1 (Go l E YX9_reckonAll (d + 1) 0 0 Q 0 0 10)))))))))))))))))))))))))))))))))))))))))))))
set_option maxRecDepth 100000 in
set_option maxHeartbeats 4000000 in
theorem gX9_reckonAll_10 {l : Launch} {E : Ev} {d : Nat} {Q : Option Value → Hp → Prop} {ls : Lv} {st : List Value} {h : Hp} (hB : bX9_reckonAll_10 l E d Q ls st h) : Go l E YX9_reckonAll (d + 1) 0 0 Q 0 0 10 ls st h :=
  (sd_iload (n := 4) dX9_reckonAll_10 (sd_iload_n (i := 2) rfl dX9_reckonAll_12 (sd_icmp_ge (tgt := 245) (by decide) dX9_reckonAll_13 (Sd.go) (sd_aload_n (i := 0) rfl dX9_reckonAll_16 (sd_getI clsX9 (f := 30) (by decide) (fun _ _ _ => rfl) mw_1208 dX9_reckonAll_17 (sd_if_ne (tgt := 245) (by decide) dX9_reckonAll_20 (Sd.go) (sd_aload_n (i := 0) rfl dX9_reckonAll_23 (sd_getR clsX9 (f := 3) (by decide) (fun _ _ _ => rfl) mw_1181 dX9_reckonAll_24 (sd_aload_n (i := 0) rfl dX9_reckonAll_27 (sd_getI clsX9 (f := 27) (by decide) (fun _ _ _ => rfl) mw_1205 dX9_reckonAll_28 (sd_bipush (v := 98) (by decide) dX9_reckonAll_31 (sd_iadd dX9_reckonAll_33 (sd_iconst (v := 2) (by decide) dX9_reckonAll_34 (sd_iload (n := 4) dX9_reckonAll_35 (sd_imul dX9_reckonAll_37 (sd_iadd dX9_reckonAll_38 (sd_iaload dX9_reckonAll_39 (sd_istore (i := 5) (by decide) dX9_reckonAll_40 (sd_aload_n (i := 0) rfl dX9_reckonAll_42 (sd_getR clsX9 (f := 3) (by decide) (fun _ _ _ => rfl) mw_1181 dX9_reckonAll_43 (sd_aload_n (i := 0) rfl dX9_reckonAll_46 (sd_getI clsX9 (f := 27) (by decide) (fun _ _ _ => rfl) mw_1205 dX9_reckonAll_47 (sd_bipush (v := 98) (by decide) dX9_reckonAll_50 (sd_iadd dX9_reckonAll_52 (sd_iconst (v := 2) (by decide) dX9_reckonAll_53 (sd_iload (n := 4) dX9_reckonAll_54 (sd_imul dX9_reckonAll_56 (sd_iadd dX9_reckonAll_57 (sd_iconst (v := 1) (by decide) dX9_reckonAll_58 (sd_iadd dX9_reckonAll_59 (sd_iaload dX9_reckonAll_60 (sd_istore (i := 6) (by decide) dX9_reckonAll_61 (sd_iinc (i := 4) (v := 1) (by decide) (by decide) dX9_reckonAll_63 (sd_iload (n := 5) dX9_reckonAll_66 (sd_bipush (v := 20) (by decide) dX9_reckonAll_68 (sd_icmp_ge (tgt := 103) (by decide) dX9_reckonAll_70 (sd_iload (n := 5) dX9_reckonAll_103 (sd_bipush (v := 27) (by decide) dX9_reckonAll_105 (sd_icmp_ge (tgt := 180) (by decide) dX9_reckonAll_107 (sd_iload (n := 5) dX9_reckonAll_180 (sd_bipush (v := 27) (by decide) dX9_reckonAll_182 (sd_icmp_ne (tgt := 208) (by decide) dX9_reckonAll_184 (sd_aload_n (i := 0) rfl dX9_reckonAll_208 (sd_getR clsX9 (f := 29) (by decide) (fun _ _ _ => rfl) mw_1207 dX9_reckonAll_209 (sd_iload_n (i := 3) rfl dX9_reckonAll_212 (sd_iconst (v := 1) (by decide) dX9_reckonAll_213 (sd_isub dX9_reckonAll_214 (sd_laload dX9_reckonAll_215 (sd_iload (n := 5) dX9_reckonAll_216 (sd_bipush (v := 28) (by decide) dX9_reckonAll_218 (sd_icmp_ne (tgt := 227) (by decide) dX9_reckonAll_220 (sd_lconst (v := 1) (by decide) dX9_reckonAll_227 (Sd.go)) (sd_lconst (v := 0) (by decide) dX9_reckonAll_223 (sd_goto (tgt := 228) (by decide) dX9_reckonAll_224 (Sd.go)))))))))))) (sd_aload_n (i := 0) rfl dX9_reckonAll_187 (sd_getR clsX9 (f := 29) (by decide) (fun _ _ _ => rfl) mw_1207 dX9_reckonAll_188 (sd_iload_n (i := 3) rfl dX9_reckonAll_191 (sd_iconst (v := 1) (by decide) dX9_reckonAll_192 (sd_isub dX9_reckonAll_193 (sd_lconst (v := 1) (by decide) dX9_reckonAll_194 (sd_aload_n (i := 0) rfl dX9_reckonAll_195 (sd_getR clsX9 (f := 29) (by decide) (fun _ _ _ => rfl) mw_1207 dX9_reckonAll_196 (sd_iload_n (i := 3) rfl dX9_reckonAll_199 (sd_iconst (v := 1) (by decide) dX9_reckonAll_200 (sd_isub dX9_reckonAll_201 (sd_laload dX9_reckonAll_202 (sd_lsub dX9_reckonAll_203 (sd_lastore dX9_reckonAll_204 (sd_goto (tgt := 242) (by decide) dX9_reckonAll_205 (sd_goto (tgt := 10) (by decide) dX9_reckonAll_242 (Sd.go)))))))))))))))))))) (sd_iinc (i := 3) (v := (-1)) (by decide) (by decide) dX9_reckonAll_110 (sd_aload_n (i := 0) rfl dX9_reckonAll_113 (sd_getR clsX9 (f := 29) (by decide) (fun _ _ _ => rfl) mw_1207 dX9_reckonAll_114 (sd_iload_n (i := 3) rfl dX9_reckonAll_117 (sd_iconst (v := 1) (by decide) dX9_reckonAll_118 (sd_isub dX9_reckonAll_119 (sd_aload_n (i := 0) rfl dX9_reckonAll_120 (sd_iload (n := 5) dX9_reckonAll_121 (sd_aload_n (i := 0) rfl dX9_reckonAll_123 (sd_getR clsX9 (f := 29) (by decide) (fun _ _ _ => rfl) mw_1207 dX9_reckonAll_124 (sd_iload_n (i := 3) rfl dX9_reckonAll_127 (sd_iconst (v := 1) (by decide) dX9_reckonAll_128 (sd_isub dX9_reckonAll_129 (sd_laload dX9_reckonAll_130 (sd_aload_n (i := 0) rfl dX9_reckonAll_131 (sd_getR clsX9 (f := 29) (by decide) (fun _ _ _ => rfl) mw_1207 dX9_reckonAll_132 (sd_iload_n (i := 3) rfl dX9_reckonAll_135 (sd_laload dX9_reckonAll_136 (sd_callV (Y' := YX9_reckon) (mc' := 0) (ms' := 0) (n := 3) clsX9.1 mw_1579 mw_1581 mw_76 mw_108 mw_1582 rfl (okmX9_reckon) (by decide) (Nat.le_refl _) (by decide) (by decide) dX9_reckonAll_137 (sd_lastore dX9_reckonAll_140 (sd_aload_n (i := 0) rfl dX9_reckonAll_141 (sd_aload_n (i := 0) rfl dX9_reckonAll_142 (sd_getI clsX9 (f := 30) (by decide) (fun _ _ _ => rfl) mw_1208 dX9_reckonAll_143 (sd_if_ne (tgt := 169) (by decide) dX9_reckonAll_146 (sd_iconst (v := 1) (by decide) dX9_reckonAll_169 (sd_goto (tgt := 174) (by decide) dX9_reckonAll_170 (sd_putZ clsX9 (f := 30) (by decide) (fun _ _ _ => rfl) rfl (Or.inl rfl) mw_1208 dX9_reckonAll_174 (sd_goto (tgt := 242) (by decide) dX9_reckonAll_177 (sd_goto (tgt := 10) (by decide) dX9_reckonAll_242 (Sd.go)))))) (sd_aload_n (i := 0) rfl dX9_reckonAll_149 (sd_getR clsX9 (f := 29) (by decide) (fun _ _ _ => rfl) mw_1207 dX9_reckonAll_150 (sd_iload_n (i := 3) rfl dX9_reckonAll_153 (sd_iconst (v := 1) (by decide) dX9_reckonAll_154 (sd_isub dX9_reckonAll_155 (sd_laload dX9_reckonAll_156 (sd_ldc2 (v := (-1000000000)) mw_1583 dX9_reckonAll_157 (sd_ldc2 (v := 1000000000) mw_1584 dX9_reckonAll_160 (sd_callS (Y' := YX9_in) (mc' := 0) (ms' := 0) (n := 3) mw_1348 mw_1349 mw_108 mw_1350 (okmX9_in) (by decide) (Nat.le_refl _) (by decide) (by decide) dX9_reckonAll_163 (sd_if_ne (tgt := 173) (by decide) dX9_reckonAll_166 (sd_iconst (v := 0) (by decide) dX9_reckonAll_173 (sd_putZ clsX9 (f := 30) (by decide) (fun _ _ _ => rfl) rfl (Or.inl rfl) mw_1208 dX9_reckonAll_174 (sd_goto (tgt := 242) (by decide) dX9_reckonAll_177 (sd_goto (tgt := 10) (by decide) dX9_reckonAll_242 (Sd.go))))) (sd_iconst (v := 1) (by decide) dX9_reckonAll_169 (sd_goto (tgt := 174) (by decide) dX9_reckonAll_170 (sd_putZ clsX9 (f := 30) (by decide) (fun _ _ _ => rfl) rfl (Or.inl rfl) mw_1208 dX9_reckonAll_174 (sd_goto (tgt := 242) (by decide) dX9_reckonAll_177 (sd_goto (tgt := 10) (by decide) dX9_reckonAll_242 (Sd.go))))))))))))))))))))))))))))))))))))))))))) (sd_aload_n (i := 0) rfl dX9_reckonAll_73 (sd_getR clsX9 (f := 29) (by decide) (fun _ _ _ => rfl) mw_1207 dX9_reckonAll_74 (sd_iload_n (i := 3) rfl dX9_reckonAll_77 (sd_iload (n := 5) dX9_reckonAll_78 (sd_if_ne (tgt := 89) (by decide) dX9_reckonAll_80 (sd_aload_n (i := 0) rfl dX9_reckonAll_89 (sd_getR clsX9 (f := 28) (by decide) (fun _ _ _ => rfl) mw_1206 dX9_reckonAll_90 (sd_iload (n := 5) dX9_reckonAll_93 (sd_laload dX9_reckonAll_95 (sd_lastore dX9_reckonAll_96 (sd_iinc (i := 3) (v := 1) (by decide) (by decide) dX9_reckonAll_97 (sd_goto (tgt := 242) (by decide) dX9_reckonAll_100 (sd_goto (tgt := 10) (by decide) dX9_reckonAll_242 (Sd.go))))))))) (sd_iload (n := 6) dX9_reckonAll_83 (sd_i2l dX9_reckonAll_85 (sd_goto (tgt := 96) (by decide) dX9_reckonAll_86 (sd_lastore dX9_reckonAll_96 (sd_iinc (i := 3) (v := 1) (by decide) (by decide) dX9_reckonAll_97 (sd_goto (tgt := 242) (by decide) dX9_reckonAll_100 (sd_goto (tgt := 10) (by decide) dX9_reckonAll_242 (Sd.go)))))))))))))))))))))))))))))))))))))))))))))))) : Sd l E YX9_reckonAll (d + 1) 0 0 Q 0 0 10 (bX9_reckonAll_10 l E d Q)) ls st h hB
def bX9_reckonAll_228 (l : Launch) (E : Ev) (d : Nat) (Q : Option Value → Hp → Prop) : Kt := k_lcmp (k_if_ne (k_iinc 3 (-1) (Go l E YX9_reckonAll (d + 1) 0 0 Q 0 0 10)) (k_iload 6 (k_istore 4 (Go l E YX9_reckonAll (d + 1) 0 0 Q 0 0 10))))
set_option maxRecDepth 100000 in
set_option maxHeartbeats 4000000 in
theorem gX9_reckonAll_228 {l : Launch} {E : Ev} {d : Nat} {Q : Option Value → Hp → Prop} {ls : Lv} {st : List Value} {h : Hp} (hB : bX9_reckonAll_228 l E d Q ls st h) : Go l E YX9_reckonAll (d + 1) 0 0 Q 0 0 228 ls st h :=
  (sd_lcmp dX9_reckonAll_228 (sd_if_ne (tgt := 239) (by decide) dX9_reckonAll_229 (sd_iinc (i := 3) (v := (-1)) (by decide) (by decide) dX9_reckonAll_239 (sd_goto (tgt := 10) (by decide) dX9_reckonAll_242 (Sd.go))) (sd_iload (n := 6) dX9_reckonAll_232 (sd_istore (i := 4) (by decide) dX9_reckonAll_234 (sd_goto (tgt := 242) (by decide) dX9_reckonAll_236 (sd_goto (tgt := 10) (by decide) dX9_reckonAll_242 (Sd.go)))))) : Sd l E YX9_reckonAll (d + 1) 0 0 Q 0 0 228 (bX9_reckonAll_228 l E d Q)) ls st h hB
def bX9_reckonAll_245 (l : Launch) (E : Ev) (d : Nat) (Q : Option Value → Hp → Prop) : Kt := k_aload 0 (k_iload 3 (k_if_le (k_push (.long 0) (k_putJ 9 55 31 (k_vret Q))) (k_aload 0 (k_getR 9 55 29 (k_push (.int 0) (k_laload (k_putJ 9 55 31 (k_vret Q))))))))
set_option maxRecDepth 100000 in
set_option maxHeartbeats 4000000 in
theorem gX9_reckonAll_245 {l : Launch} {E : Ev} {d : Nat} {Q : Option Value → Hp → Prop} {ls : Lv} {st : List Value} {h : Hp} (hB : bX9_reckonAll_245 l E d Q ls st h) : Go l E YX9_reckonAll (d + 1) 0 0 Q 0 0 245 ls st h :=
  (sd_aload_n (i := 0) rfl dX9_reckonAll_245 (sd_iload_n (i := 3) rfl dX9_reckonAll_246 (sd_if_le (tgt := 259) (by decide) dX9_reckonAll_247 (sd_lconst (v := 0) (by decide) dX9_reckonAll_259 (sd_putJ clsX9 (f := 31) (by decide) (fun _ _ _ => rfl) rfl (Or.inl rfl) mw_1209 dX9_reckonAll_260 (sd_vret rfl (by decide) (by decide) dX9_reckonAll_263))) (sd_aload_n (i := 0) rfl dX9_reckonAll_250 (sd_getR clsX9 (f := 29) (by decide) (fun _ _ _ => rfl) mw_1207 dX9_reckonAll_251 (sd_iconst (v := 0) (by decide) dX9_reckonAll_254 (sd_laload dX9_reckonAll_255 (sd_goto (tgt := 260) (by decide) dX9_reckonAll_256 (sd_putJ clsX9 (f := 31) (by decide) (fun _ _ _ => rfl) rfl (Or.inl rfl) mw_1209 dX9_reckonAll_260 (sd_vret rfl (by decide) (by decide) dX9_reckonAll_263))))))))) : Sd l E YX9_reckonAll (d + 1) 0 0 Q 0 0 245 (bX9_reckonAll_245 l E d Q)) ls st h hB
theorem eX9_reckonAll {l : Launch} {E : Ev} {d : Nat} {Q : Option Value → Hp → Prop} {h : Hp} {a0 : Nat} {x1 : Int32} {x2 : Int32} (hk : Go l E YX9_reckonAll d 0 0 Q 0 0 0 [some (.ref a0), some (.int x1), some (.int x2), none, none, none, none] [] h) : GoM l E YX9_reckonAll d 0 0 [.ref a0, .int x1, .int x2] h Q := GoM.of (by decide +kernel) rfl (by simp [entA, YX9_reckonAll]) hk
theorem dX9_isSo_0 : decode cX9_isSo 0 = .ok (.aload_n 0, 1) := by decide +kernel
theorem dX9_isSo_1 : decode cX9_isSo 1 = .ok (.getfield 13, 3) := by decide +kernel
theorem dX9_isSo_4 : decode cX9_isSo 4 = .ok (.iload_n 1, 1) := by decide +kernel
theorem dX9_isSo_5 : decode cX9_isSo 5 = .ok (.iconst 5, 1) := by decide +kernel
theorem dX9_isSo_6 : decode cX9_isSo 6 = .ok (.iadd, 1) := by decide +kernel
theorem dX9_isSo_7 : decode cX9_isSo 7 = .ok (.iaload, 1) := by decide +kernel
theorem dX9_isSo_8 : decode cX9_isSo 8 = .ok (.aload_n 0, 1) := by decide +kernel
theorem dX9_isSo_9 : decode cX9_isSo 9 = .ok (.getfield 13, 3) := by decide +kernel
theorem dX9_isSo_12 : decode cX9_isSo 12 = .ok (.iload_n 1, 1) := by decide +kernel
theorem dX9_isSo_13 : decode cX9_isSo 13 = .ok (.bipush 6, 2) := by decide +kernel
theorem dX9_isSo_15 : decode cX9_isSo 15 = .ok (.iadd, 1) := by decide +kernel
theorem dX9_isSo_16 : decode cX9_isSo 16 = .ok (.iaload, 1) := by decide +kernel
theorem dX9_isSo_17 : decode cX9_isSo 17 = .ok (.if_icmp .ge 42, 3) := by decide +kernel
theorem dX9_isSo_20 : decode cX9_isSo 20 = .ok (.aload_n 0, 1) := by decide +kernel
theorem dX9_isSo_21 : decode cX9_isSo 21 = .ok (.aload_n 0, 1) := by decide +kernel
theorem dX9_isSo_22 : decode cX9_isSo 22 = .ok (.getfield 13, 3) := by decide +kernel
theorem dX9_isSo_25 : decode cX9_isSo 25 = .ok (.iload_n 1, 1) := by decide +kernel
theorem dX9_isSo_26 : decode cX9_isSo 26 = .ok (.iconst 5, 1) := by decide +kernel
theorem dX9_isSo_27 : decode cX9_isSo 27 = .ok (.iadd, 1) := by decide +kernel
theorem dX9_isSo_28 : decode cX9_isSo 28 = .ok (.iaload, 1) := by decide +kernel
theorem dX9_isSo_29 : decode cX9_isSo 29 = .ok (.aload_n 0, 1) := by decide +kernel
theorem dX9_isSo_30 : decode cX9_isSo 30 = .ok (.getfield 13, 3) := by decide +kernel
theorem dX9_isSo_33 : decode cX9_isSo 33 = .ok (.iload_n 1, 1) := by decide +kernel
theorem dX9_isSo_34 : decode cX9_isSo 34 = .ok (.bipush 6, 2) := by decide +kernel
theorem dX9_isSo_36 : decode cX9_isSo 36 = .ok (.iadd, 1) := by decide +kernel
theorem dX9_isSo_37 : decode cX9_isSo 37 = .ok (.iaload, 1) := by decide +kernel
theorem dX9_isSo_38 : decode cX9_isSo 38 = .ok (.invokevirtual 333, 3) := by decide +kernel
theorem dX9_isSo_41 : decode cX9_isSo 41 = .ok (.aload_n 0, 1) := by decide +kernel
theorem dX9_isSo_42 : decode cX9_isSo 42 = .ok (.getfield 316, 3) := by decide +kernel
theorem dX9_isSo_45 : decode cX9_isSo 45 = .ok (.ifCond .ne 12, 3) := by decide +kernel
theorem dX9_isSo_48 : decode cX9_isSo 48 = .ok (.aload_n 0, 1) := by decide +kernel
theorem dX9_isSo_49 : decode cX9_isSo 49 = .ok (.getfield 330, 3) := by decide +kernel
theorem dX9_isSo_52 : decode cX9_isSo 52 = .ok (.lconst 0, 1) := by decide +kernel
theorem dX9_isSo_53 : decode cX9_isSo 53 = .ok (.lcmp, 1) := by decide +kernel
theorem dX9_isSo_54 : decode cX9_isSo 54 = .ok (.ifCond .ne 5, 3) := by decide +kernel
theorem dX9_isSo_57 : decode cX9_isSo 57 = .ok (.iconst 0, 1) := by decide +kernel
theorem dX9_isSo_58 : decode cX9_isSo 58 = .ok (.ireturn, 1) := by decide +kernel
theorem dX9_isSo_59 : decode cX9_isSo 59 = .ok (.aload_n 0, 1) := by decide +kernel
theorem dX9_isSo_60 : decode cX9_isSo 60 = .ok (.getfield 13, 3) := by decide +kernel
theorem dX9_isSo_63 : decode cX9_isSo 63 = .ok (.iload_n 1, 1) := by decide +kernel
theorem dX9_isSo_64 : decode cX9_isSo 64 = .ok (.iaload, 1) := by decide +kernel
theorem dX9_isSo_65 : decode cX9_isSo 65 = .ok (.iconst 2, 1) := by decide +kernel
theorem dX9_isSo_66 : decode cX9_isSo 66 = .ok (.if_icmp .ge 44, 3) := by decide +kernel
theorem dX9_isSo_69 : decode cX9_isSo 69 = .ok (.aload_n 0, 1) := by decide +kernel
theorem dX9_isSo_70 : decode cX9_isSo 70 = .ok (.aload_n 0, 1) := by decide +kernel
theorem dX9_isSo_71 : decode cX9_isSo 71 = .ok (.getfield 13, 3) := by decide +kernel
theorem dX9_isSo_74 : decode cX9_isSo 74 = .ok (.iload_n 1, 1) := by decide +kernel
theorem dX9_isSo_75 : decode cX9_isSo 75 = .ok (.iconst 3, 1) := by decide +kernel
theorem dX9_isSo_76 : decode cX9_isSo 76 = .ok (.iadd, 1) := by decide +kernel
theorem dX9_isSo_77 : decode cX9_isSo 77 = .ok (.iaload, 1) := by decide +kernel
theorem dX9_isSo_78 : decode cX9_isSo 78 = .ok (.aload_n 0, 1) := by decide +kernel
theorem dX9_isSo_79 : decode cX9_isSo 79 = .ok (.getfield 13, 3) := by decide +kernel
theorem dX9_isSo_82 : decode cX9_isSo 82 = .ok (.iload_n 1, 1) := by decide +kernel
theorem dX9_isSo_83 : decode cX9_isSo 83 = .ok (.iconst 4, 1) := by decide +kernel
theorem dX9_isSo_84 : decode cX9_isSo 84 = .ok (.iadd, 1) := by decide +kernel
theorem dX9_isSo_85 : decode cX9_isSo 85 = .ok (.iaload, 1) := by decide +kernel
theorem dX9_isSo_86 : decode cX9_isSo 86 = .ok (.invokevirtual 333, 3) := by decide +kernel
theorem dX9_isSo_89 : decode cX9_isSo 89 = .ok (.aload_n 0, 1) := by decide +kernel
theorem dX9_isSo_90 : decode cX9_isSo 90 = .ok (.aload_n 0, 1) := by decide +kernel
theorem dX9_isSo_91 : decode cX9_isSo 91 = .ok (.getfield 330, 3) := by decide +kernel
theorem dX9_isSo_94 : decode cX9_isSo 94 = .ok (.putfield 336, 3) := by decide +kernel
theorem dX9_isSo_97 : decode cX9_isSo 97 = .ok (.aload_n 0, 1) := by decide +kernel
theorem dX9_isSo_98 : decode cX9_isSo 98 = .ok (.getfield 316, 3) := by decide +kernel
theorem dX9_isSo_101 : decode cX9_isSo 101 = .ok (.ifCond .ne 7, 3) := by decide +kernel
theorem dX9_isSo_104 : decode cX9_isSo 104 = .ok (.iconst 1, 1) := by decide +kernel
theorem dX9_isSo_105 : decode cX9_isSo 105 = .ok (.goto 4, 3) := by decide +kernel
theorem dX9_isSo_108 : decode cX9_isSo 108 = .ok (.iconst 0, 1) := by decide +kernel
theorem dX9_isSo_109 : decode cX9_isSo 109 = .ok (.ireturn, 1) := by decide +kernel
theorem dX9_isSo_110 : decode cX9_isSo 110 = .ok (.iconst 1, 1) := by decide +kernel
theorem dX9_isSo_111 : decode cX9_isSo 111 = .ok (.ireturn, 1) := by decide +kernel
def bX9_isSo_0 (l : Launch) (E : Ev) (d : Nat) (Q : Option Value → Hp → Prop) : Kt := k_aload 0 (k_getR 9 55 3 (k_iload 1 (k_push (.int 5) (k_iadd (k_iaload (k_aload 0 (k_getR 9 55 3 (k_iload 1 (k_push (.int 6) (k_iadd (k_iaload (k_icmp_ge (Go l E YX9_isSo (d + 1) 0 0 Q 0 0 59) (k_aload 0 (k_aload 0 (k_getR 9 55 3 (k_iload 1 (k_push (.int 5) (k_iadd (k_iaload (k_aload 0 (k_getR 9 55 3 (k_iload 1 (k_push (.int 6) (k_iadd (k_iaload (k_callV l E 9 55 YX9_reckonAll d 0 0 2 (k_aload 0 (k_getI 9 55 30 (k_if_ne (k_push (.int 0) (k_iret .boolean Q)) (k_aload 0 (k_getJ 9 55 31 (k_push (.long 0) (k_lcmp (k_if_ne (Go l E YX9_isSo (d + 1) 0 0 Q 0 0 59) (k_push (.int 0) (k_iret .boolean Q))))))))))))))))))))))))))))))))))))
set_option maxRecDepth 100000 in
set_option maxHeartbeats 4000000 in
theorem gX9_isSo_0 {l : Launch} {E : Ev} {d : Nat} {Q : Option Value → Hp → Prop} {ls : Lv} {st : List Value} {h : Hp} (hB : bX9_isSo_0 l E d Q ls st h) : Go l E YX9_isSo (d + 1) 0 0 Q 0 0 0 ls st h :=
  (sd_aload_n (i := 0) rfl dX9_isSo_0 (sd_getR clsX9 (f := 3) (by decide) (fun _ _ _ => rfl) mw_1181 dX9_isSo_1 (sd_iload_n (i := 1) rfl dX9_isSo_4 (sd_iconst (v := 5) (by decide) dX9_isSo_5 (sd_iadd dX9_isSo_6 (sd_iaload dX9_isSo_7 (sd_aload_n (i := 0) rfl dX9_isSo_8 (sd_getR clsX9 (f := 3) (by decide) (fun _ _ _ => rfl) mw_1181 dX9_isSo_9 (sd_iload_n (i := 1) rfl dX9_isSo_12 (sd_bipush (v := 6) (by decide) dX9_isSo_13 (sd_iadd dX9_isSo_15 (sd_iaload dX9_isSo_16 (sd_icmp_ge (tgt := 59) (by decide) dX9_isSo_17 (Sd.go) (sd_aload_n (i := 0) rfl dX9_isSo_20 (sd_aload_n (i := 0) rfl dX9_isSo_21 (sd_getR clsX9 (f := 3) (by decide) (fun _ _ _ => rfl) mw_1181 dX9_isSo_22 (sd_iload_n (i := 1) rfl dX9_isSo_25 (sd_iconst (v := 5) (by decide) dX9_isSo_26 (sd_iadd dX9_isSo_27 (sd_iaload dX9_isSo_28 (sd_aload_n (i := 0) rfl dX9_isSo_29 (sd_getR clsX9 (f := 3) (by decide) (fun _ _ _ => rfl) mw_1181 dX9_isSo_30 (sd_iload_n (i := 1) rfl dX9_isSo_33 (sd_bipush (v := 6) (by decide) dX9_isSo_34 (sd_iadd dX9_isSo_36 (sd_iaload dX9_isSo_37 (sd_callV (Y' := YX9_reckonAll) (mc' := 0) (ms' := 0) (n := 2) clsX9.1 mw_1575 mw_1577 mw_75 mw_108 mw_1578 rfl (okmX9_reckonAll) (by decide) (Nat.le_refl _) (by decide) (by decide) dX9_isSo_38 (sd_aload_n (i := 0) rfl dX9_isSo_41 (sd_getI clsX9 (f := 30) (by decide) (fun _ _ _ => rfl) mw_1208 dX9_isSo_42 (sd_if_ne (tgt := 57) (by decide) dX9_isSo_45 (sd_iconst (v := 0) (by decide) dX9_isSo_57 (sd_iret (ty := .boolean) rfl (by decide) (by decide) dX9_isSo_58)) (sd_aload_n (i := 0) rfl dX9_isSo_48 (sd_getJ clsX9 (f := 31) (by decide) (fun _ _ _ => rfl) mw_1209 dX9_isSo_49 (sd_lconst (v := 0) (by decide) dX9_isSo_52 (sd_lcmp dX9_isSo_53 (sd_if_ne (tgt := 59) (by decide) dX9_isSo_54 (Sd.go) (sd_iconst (v := 0) (by decide) dX9_isSo_57 (sd_iret (ty := .boolean) rfl (by decide) (by decide) dX9_isSo_58)))))))))))))))))))))))))))))))))))) : Sd l E YX9_isSo (d + 1) 0 0 Q 0 0 0 (bX9_isSo_0 l E d Q)) ls st h hB
def bX9_isSo_59 (l : Launch) (E : Ev) (d : Nat) (Q : Option Value → Hp → Prop) : Kt := k_aload 0 (k_getR 9 55 3 (k_iload 1 (k_iaload (k_push (.int 2) (k_icmp_ge (k_push (.int 1) (k_iret .boolean Q)) (k_aload 0 (k_aload 0 (k_getR 9 55 3 (k_iload 1 (k_push (.int 3) (k_iadd (k_iaload (k_aload 0 (k_getR 9 55 3 (k_iload 1 (k_push (.int 4) (k_iadd (k_iaload (k_callV l E 9 55 YX9_reckonAll d 0 0 2 (k_aload 0 (k_aload 0 (k_getJ 9 55 31 (k_putJ 9 55 32 (k_aload 0 (k_getI 9 55 30 (k_if_ne (k_push (.int 0) (k_iret .boolean Q)) (k_push (.int 1) (k_iret .boolean Q))))))))))))))))))))))))))))
set_option maxRecDepth 100000 in
set_option maxHeartbeats 4000000 in
theorem gX9_isSo_59 {l : Launch} {E : Ev} {d : Nat} {Q : Option Value → Hp → Prop} {ls : Lv} {st : List Value} {h : Hp} (hB : bX9_isSo_59 l E d Q ls st h) : Go l E YX9_isSo (d + 1) 0 0 Q 0 0 59 ls st h :=
  (sd_aload_n (i := 0) rfl dX9_isSo_59 (sd_getR clsX9 (f := 3) (by decide) (fun _ _ _ => rfl) mw_1181 dX9_isSo_60 (sd_iload_n (i := 1) rfl dX9_isSo_63 (sd_iaload dX9_isSo_64 (sd_iconst (v := 2) (by decide) dX9_isSo_65 (sd_icmp_ge (tgt := 110) (by decide) dX9_isSo_66 (sd_iconst (v := 1) (by decide) dX9_isSo_110 (sd_iret (ty := .boolean) rfl (by decide) (by decide) dX9_isSo_111)) (sd_aload_n (i := 0) rfl dX9_isSo_69 (sd_aload_n (i := 0) rfl dX9_isSo_70 (sd_getR clsX9 (f := 3) (by decide) (fun _ _ _ => rfl) mw_1181 dX9_isSo_71 (sd_iload_n (i := 1) rfl dX9_isSo_74 (sd_iconst (v := 3) (by decide) dX9_isSo_75 (sd_iadd dX9_isSo_76 (sd_iaload dX9_isSo_77 (sd_aload_n (i := 0) rfl dX9_isSo_78 (sd_getR clsX9 (f := 3) (by decide) (fun _ _ _ => rfl) mw_1181 dX9_isSo_79 (sd_iload_n (i := 1) rfl dX9_isSo_82 (sd_iconst (v := 4) (by decide) dX9_isSo_83 (sd_iadd dX9_isSo_84 (sd_iaload dX9_isSo_85 (sd_callV (Y' := YX9_reckonAll) (mc' := 0) (ms' := 0) (n := 2) clsX9.1 mw_1575 mw_1577 mw_75 mw_108 mw_1578 rfl (okmX9_reckonAll) (by decide) (Nat.le_refl _) (by decide) (by decide) dX9_isSo_86 (sd_aload_n (i := 0) rfl dX9_isSo_89 (sd_aload_n (i := 0) rfl dX9_isSo_90 (sd_getJ clsX9 (f := 31) (by decide) (fun _ _ _ => rfl) mw_1209 dX9_isSo_91 (sd_putJ clsX9 (f := 32) (by decide) (fun _ _ _ => rfl) rfl (Or.inl rfl) mw_1210 dX9_isSo_94 (sd_aload_n (i := 0) rfl dX9_isSo_97 (sd_getI clsX9 (f := 30) (by decide) (fun _ _ _ => rfl) mw_1208 dX9_isSo_98 (sd_if_ne (tgt := 108) (by decide) dX9_isSo_101 (sd_iconst (v := 0) (by decide) dX9_isSo_108 (sd_iret (ty := .boolean) rfl (by decide) (by decide) dX9_isSo_109)) (sd_iconst (v := 1) (by decide) dX9_isSo_104 (sd_goto (tgt := 109) (by decide) dX9_isSo_105 (sd_iret (ty := .boolean) rfl (by decide) (by decide) dX9_isSo_109))))))))))))))))))))))))))))) : Sd l E YX9_isSo (d + 1) 0 0 Q 0 0 59 (bX9_isSo_59 l E d Q)) ls st h hB
theorem eX9_isSo {l : Launch} {E : Ev} {d : Nat} {Q : Option Value → Hp → Prop} {h : Hp} {a0 : Nat} {x1 : Int32} (hk : Go l E YX9_isSo d 0 0 Q 0 0 0 [some (.ref a0), some (.int x1)] [] h) : GoM l E YX9_isSo d 0 0 [.ref a0, .int x1] h Q := GoM.of (by decide +kernel) rfl (by simp [entA, YX9_isSo]) hk
theorem dX9_tells_0 : decode cX9_tells 0 = .ok (.aload_n 0, 1) := by decide +kernel
theorem dX9_tells_1 : decode cX9_tells 1 = .ok (.getfield 13, 3) := by decide +kernel
theorem dX9_tells_4 : decode cX9_tells 4 = .ok (.iconst 3, 1) := by decide +kernel
theorem dX9_tells_5 : decode cX9_tells 5 = .ok (.iaload, 1) := by decide +kernel
theorem dX9_tells_6 : decode cX9_tells 6 = .ok (.iconst (-1), 1) := by decide +kernel
theorem dX9_tells_7 : decode cX9_tells 7 = .ok (.if_icmp .ne 6, 3) := by decide +kernel
theorem dX9_tells_10 : decode cX9_tells 10 = .ok (.iload 4, 2) := by decide +kernel
theorem dX9_tells_12 : decode cX9_tells 12 = .ok (.ireturn, 1) := by decide +kernel
theorem dX9_tells_13 : decode cX9_tells 13 = .ok (.aload_n 0, 1) := by decide +kernel
theorem dX9_tells_14 : decode cX9_tells 14 = .ok (.sipush 180, 3) := by decide +kernel
theorem dX9_tells_17 : decode cX9_tells 17 = .ok (.sipush 900, 3) := by decide +kernel
theorem dX9_tells_20 : decode cX9_tells 20 = .ok (.aload_n 0, 1) := by decide +kernel
theorem dX9_tells_21 : decode cX9_tells 21 = .ok (.getfield 13, 3) := by decide +kernel
theorem dX9_tells_24 : decode cX9_tells 24 = .ok (.iconst 3, 1) := by decide +kernel
theorem dX9_tells_25 : decode cX9_tells 25 = .ok (.iaload, 1) := by decide +kernel
theorem dX9_tells_26 : decode cX9_tells 26 = .ok (.imul, 1) := by decide +kernel
theorem dX9_tells_27 : decode cX9_tells 27 = .ok (.iadd, 1) := by decide +kernel
theorem dX9_tells_28 : decode cX9_tells 28 = .ok (.putfield 319, 3) := by decide +kernel
theorem dX9_tells_31 : decode cX9_tells 31 = .ok (.aload_n 0, 1) := by decide +kernel
theorem dX9_tells_32 : decode cX9_tells 32 = .ok (.getfield 80, 3) := by decide +kernel
theorem dX9_tells_35 : decode cX9_tells 35 = .ok (.iconst 1, 1) := by decide +kernel
theorem dX9_tells_36 : decode cX9_tells 36 = .ok (.iload_n 2, 1) := by decide +kernel
theorem dX9_tells_37 : decode cX9_tells 37 = .ok (.i2l, 1) := by decide +kernel
theorem dX9_tells_38 : decode cX9_tells 38 = .ok (.lastore, 1) := by decide +kernel
theorem dX9_tells_39 : decode cX9_tells 39 = .ok (.aload_n 0, 1) := by decide +kernel
theorem dX9_tells_40 : decode cX9_tells 40 = .ok (.getfield 80, 3) := by decide +kernel
theorem dX9_tells_43 : decode cX9_tells 43 = .ok (.iconst 2, 1) := by decide +kernel
theorem dX9_tells_44 : decode cX9_tells 44 = .ok (.iload_n 3, 1) := by decide +kernel
theorem dX9_tells_45 : decode cX9_tells 45 = .ok (.i2l, 1) := by decide +kernel
theorem dX9_tells_46 : decode cX9_tells 46 = .ok (.lastore, 1) := by decide +kernel
theorem dX9_tells_47 : decode cX9_tells 47 = .ok (.aload_n 0, 1) := by decide +kernel
theorem dX9_tells_48 : decode cX9_tells 48 = .ok (.getfield 80, 3) := by decide +kernel
theorem dX9_tells_51 : decode cX9_tells 51 = .ok (.iconst 3, 1) := by decide +kernel
theorem dX9_tells_52 : decode cX9_tells 52 = .ok (.aload_n 0, 1) := by decide +kernel
theorem dX9_tells_53 : decode cX9_tells 53 = .ok (.getfield 13, 3) := by decide +kernel
theorem dX9_tells_56 : decode cX9_tells 56 = .ok (.bipush 10, 2) := by decide +kernel
theorem dX9_tells_58 : decode cX9_tells 58 = .ok (.iconst 4, 1) := by decide +kernel
theorem dX9_tells_59 : decode cX9_tells 59 = .ok (.iload_n 2, 1) := by decide +kernel
theorem dX9_tells_60 : decode cX9_tells 60 = .ok (.imul, 1) := by decide +kernel
theorem dX9_tells_61 : decode cX9_tells 61 = .ok (.iadd, 1) := by decide +kernel
theorem dX9_tells_62 : decode cX9_tells 62 = .ok (.iaload, 1) := by decide +kernel
theorem dX9_tells_63 : decode cX9_tells 63 = .ok (.i2l, 1) := by decide +kernel
theorem dX9_tells_64 : decode cX9_tells 64 = .ok (.lastore, 1) := by decide +kernel
theorem dX9_tells_65 : decode cX9_tells 65 = .ok (.aload_n 0, 1) := by decide +kernel
theorem dX9_tells_66 : decode cX9_tells 66 = .ok (.getfield 80, 3) := by decide +kernel
theorem dX9_tells_69 : decode cX9_tells 69 = .ok (.iconst 4, 1) := by decide +kernel
theorem dX9_tells_70 : decode cX9_tells 70 = .ok (.aload_n 0, 1) := by decide +kernel
theorem dX9_tells_71 : decode cX9_tells 71 = .ok (.getfield 13, 3) := by decide +kernel
theorem dX9_tells_74 : decode cX9_tells 74 = .ok (.bipush 10, 2) := by decide +kernel
theorem dX9_tells_76 : decode cX9_tells 76 = .ok (.iconst 4, 1) := by decide +kernel
theorem dX9_tells_77 : decode cX9_tells 77 = .ok (.iload_n 2, 1) := by decide +kernel
theorem dX9_tells_78 : decode cX9_tells 78 = .ok (.imul, 1) := by decide +kernel
theorem dX9_tells_79 : decode cX9_tells 79 = .ok (.iadd, 1) := by decide +kernel
theorem dX9_tells_80 : decode cX9_tells 80 = .ok (.iconst 1, 1) := by decide +kernel
theorem dX9_tells_81 : decode cX9_tells 81 = .ok (.iadd, 1) := by decide +kernel
theorem dX9_tells_82 : decode cX9_tells 82 = .ok (.iaload, 1) := by decide +kernel
theorem dX9_tells_83 : decode cX9_tells 83 = .ok (.i2l, 1) := by decide +kernel
theorem dX9_tells_84 : decode cX9_tells 84 = .ok (.lastore, 1) := by decide +kernel
theorem dX9_tells_85 : decode cX9_tells 85 = .ok (.aload_n 0, 1) := by decide +kernel
theorem dX9_tells_86 : decode cX9_tells 86 = .ok (.getfield 80, 3) := by decide +kernel
theorem dX9_tells_89 : decode cX9_tells 89 = .ok (.iconst 5, 1) := by decide +kernel
theorem dX9_tells_90 : decode cX9_tells 90 = .ok (.aload_n 0, 1) := by decide +kernel
theorem dX9_tells_91 : decode cX9_tells 91 = .ok (.getfield 13, 3) := by decide +kernel
theorem dX9_tells_94 : decode cX9_tells 94 = .ok (.bipush 42, 2) := by decide +kernel
theorem dX9_tells_96 : decode cX9_tells 96 = .ok (.iconst 4, 1) := by decide +kernel
theorem dX9_tells_97 : decode cX9_tells 97 = .ok (.iload_n 3, 1) := by decide +kernel
theorem dX9_tells_98 : decode cX9_tells 98 = .ok (.imul, 1) := by decide +kernel
theorem dX9_tells_99 : decode cX9_tells 99 = .ok (.iadd, 1) := by decide +kernel
theorem dX9_tells_100 : decode cX9_tells 100 = .ok (.iaload, 1) := by decide +kernel
theorem dX9_tells_101 : decode cX9_tells 101 = .ok (.i2l, 1) := by decide +kernel
theorem dX9_tells_102 : decode cX9_tells 102 = .ok (.lastore, 1) := by decide +kernel
theorem dX9_tells_103 : decode cX9_tells 103 = .ok (.aload_n 0, 1) := by decide +kernel
theorem dX9_tells_104 : decode cX9_tells 104 = .ok (.getfield 80, 3) := by decide +kernel
theorem dX9_tells_107 : decode cX9_tells 107 = .ok (.bipush 6, 2) := by decide +kernel
theorem dX9_tells_109 : decode cX9_tells 109 = .ok (.aload_n 0, 1) := by decide +kernel
theorem dX9_tells_110 : decode cX9_tells 110 = .ok (.getfield 13, 3) := by decide +kernel
theorem dX9_tells_113 : decode cX9_tells 113 = .ok (.bipush 10, 2) := by decide +kernel
theorem dX9_tells_115 : decode cX9_tells 115 = .ok (.iconst 4, 1) := by decide +kernel
theorem dX9_tells_116 : decode cX9_tells 116 = .ok (.iload_n 2, 1) := by decide +kernel
theorem dX9_tells_117 : decode cX9_tells 117 = .ok (.imul, 1) := by decide +kernel
theorem dX9_tells_118 : decode cX9_tells 118 = .ok (.iadd, 1) := by decide +kernel
theorem dX9_tells_119 : decode cX9_tells 119 = .ok (.iconst 2, 1) := by decide +kernel
theorem dX9_tells_120 : decode cX9_tells 120 = .ok (.iadd, 1) := by decide +kernel
theorem dX9_tells_121 : decode cX9_tells 121 = .ok (.iaload, 1) := by decide +kernel
theorem dX9_tells_122 : decode cX9_tells 122 = .ok (.i2l, 1) := by decide +kernel
theorem dX9_tells_123 : decode cX9_tells 123 = .ok (.lastore, 1) := by decide +kernel
theorem dX9_tells_124 : decode cX9_tells 124 = .ok (.aload_n 0, 1) := by decide +kernel
theorem dX9_tells_125 : decode cX9_tells 125 = .ok (.getfield 80, 3) := by decide +kernel
theorem dX9_tells_128 : decode cX9_tells 128 = .ok (.bipush 7, 2) := by decide +kernel
theorem dX9_tells_130 : decode cX9_tells 130 = .ok (.aload_n 0, 1) := by decide +kernel
theorem dX9_tells_131 : decode cX9_tells 131 = .ok (.getfield 13, 3) := by decide +kernel
theorem dX9_tells_134 : decode cX9_tells 134 = .ok (.bipush 42, 2) := by decide +kernel
theorem dX9_tells_136 : decode cX9_tells 136 = .ok (.iconst 4, 1) := by decide +kernel
theorem dX9_tells_137 : decode cX9_tells 137 = .ok (.iload_n 3, 1) := by decide +kernel
theorem dX9_tells_138 : decode cX9_tells 138 = .ok (.imul, 1) := by decide +kernel
theorem dX9_tells_139 : decode cX9_tells 139 = .ok (.iadd, 1) := by decide +kernel
theorem dX9_tells_140 : decode cX9_tells 140 = .ok (.iconst 1, 1) := by decide +kernel
theorem dX9_tells_141 : decode cX9_tells 141 = .ok (.iadd, 1) := by decide +kernel
theorem dX9_tells_142 : decode cX9_tells 142 = .ok (.iaload, 1) := by decide +kernel
theorem dX9_tells_143 : decode cX9_tells 143 = .ok (.i2l, 1) := by decide +kernel
theorem dX9_tells_144 : decode cX9_tells 144 = .ok (.lastore, 1) := by decide +kernel
theorem dX9_tells_145 : decode cX9_tells 145 = .ok (.aload_n 0, 1) := by decide +kernel
theorem dX9_tells_146 : decode cX9_tells 146 = .ok (.getfield 80, 3) := by decide +kernel
theorem dX9_tells_149 : decode cX9_tells 149 = .ok (.bipush 8, 2) := by decide +kernel
theorem dX9_tells_151 : decode cX9_tells 151 = .ok (.aload_n 0, 1) := by decide +kernel
theorem dX9_tells_152 : decode cX9_tells 152 = .ok (.getfield 86, 3) := by decide +kernel
theorem dX9_tells_155 : decode cX9_tells 155 = .ok (.bipush 8, 2) := by decide +kernel
theorem dX9_tells_157 : decode cX9_tells 157 = .ok (.iload_n 2, 1) := by decide +kernel
theorem dX9_tells_158 : decode cX9_tells 158 = .ok (.imul, 1) := by decide +kernel
theorem dX9_tells_159 : decode cX9_tells 159 = .ok (.iload_n 3, 1) := by decide +kernel
theorem dX9_tells_160 : decode cX9_tells 160 = .ok (.iadd, 1) := by decide +kernel
theorem dX9_tells_161 : decode cX9_tells 161 = .ok (.iaload, 1) := by decide +kernel
theorem dX9_tells_162 : decode cX9_tells 162 = .ok (.i2l, 1) := by decide +kernel
theorem dX9_tells_163 : decode cX9_tells 163 = .ok (.lastore, 1) := by decide +kernel
theorem dX9_tells_164 : decode cX9_tells 164 = .ok (.aload_n 0, 1) := by decide +kernel
theorem dX9_tells_165 : decode cX9_tells 165 = .ok (.getfield 80, 3) := by decide +kernel
theorem dX9_tells_168 : decode cX9_tells 168 = .ok (.bipush 9, 2) := by decide +kernel
theorem dX9_tells_170 : decode cX9_tells 170 = .ok (.aload_n 0, 1) := by decide +kernel
theorem dX9_tells_171 : decode cX9_tells 171 = .ok (.getfield 13, 3) := by decide +kernel
theorem dX9_tells_174 : decode cX9_tells 174 = .ok (.bipush 42, 2) := by decide +kernel
theorem dX9_tells_176 : decode cX9_tells 176 = .ok (.iconst 4, 1) := by decide +kernel
theorem dX9_tells_177 : decode cX9_tells 177 = .ok (.iload_n 3, 1) := by decide +kernel
theorem dX9_tells_178 : decode cX9_tells 178 = .ok (.imul, 1) := by decide +kernel
theorem dX9_tells_179 : decode cX9_tells 179 = .ok (.iadd, 1) := by decide +kernel
theorem dX9_tells_180 : decode cX9_tells 180 = .ok (.iconst 3, 1) := by decide +kernel
theorem dX9_tells_181 : decode cX9_tells 181 = .ok (.iadd, 1) := by decide +kernel
theorem dX9_tells_182 : decode cX9_tells 182 = .ok (.iaload, 1) := by decide +kernel
theorem dX9_tells_183 : decode cX9_tells 183 = .ok (.iload_n 2, 1) := by decide +kernel
theorem dX9_tells_184 : decode cX9_tells 184 = .ok (.if_icmp .ne 7, 3) := by decide +kernel
theorem dX9_tells_187 : decode cX9_tells 187 = .ok (.lconst 1, 1) := by decide +kernel
theorem dX9_tells_188 : decode cX9_tells 188 = .ok (.goto 4, 3) := by decide +kernel
theorem dX9_tells_191 : decode cX9_tells 191 = .ok (.lconst 0, 1) := by decide +kernel
theorem dX9_tells_192 : decode cX9_tells 192 = .ok (.lastore, 1) := by decide +kernel
theorem dX9_tells_193 : decode cX9_tells 193 = .ok (.aload_n 0, 1) := by decide +kernel
theorem dX9_tells_194 : decode cX9_tells 194 = .ok (.getfield 80, 3) := by decide +kernel
theorem dX9_tells_197 : decode cX9_tells 197 = .ok (.bipush 10, 2) := by decide +kernel
theorem dX9_tells_199 : decode cX9_tells 199 = .ok (.aload_n 0, 1) := by decide +kernel
theorem dX9_tells_200 : decode cX9_tells 200 = .ok (.getfield 339, 3) := by decide +kernel
theorem dX9_tells_203 : decode cX9_tells 203 = .ok (.i2l, 1) := by decide +kernel
theorem dX9_tells_204 : decode cX9_tells 204 = .ok (.lastore, 1) := by decide +kernel
theorem dX9_tells_205 : decode cX9_tells 205 = .ok (.iload 4, 2) := by decide +kernel
theorem dX9_tells_207 : decode cX9_tells 207 = .ok (.i2l, 1) := by decide +kernel
theorem dX9_tells_208 : decode cX9_tells 208 = .ok (.lstore 6, 2) := by decide +kernel
theorem dX9_tells_210 : decode cX9_tells 210 = .ok (.iconst 0, 1) := by decide +kernel
theorem dX9_tells_211 : decode cX9_tells 211 = .ok (.istore 8, 2) := by decide +kernel
theorem dX9_tells_213 : decode cX9_tells 213 = .ok (.iload 8, 2) := by decide +kernel
theorem dX9_tells_215 : decode cX9_tells 215 = .ok (.aload_n 0, 1) := by decide +kernel
theorem dX9_tells_216 : decode cX9_tells 216 = .ok (.getfield 13, 3) := by decide +kernel
theorem dX9_tells_219 : decode cX9_tells 219 = .ok (.aload_n 0, 1) := by decide +kernel
theorem dX9_tells_220 : decode cX9_tells 220 = .ok (.getfield 319, 3) := by decide +kernel
theorem dX9_tells_223 : decode cX9_tells 223 = .ok (.iconst 1, 1) := by decide +kernel
theorem dX9_tells_224 : decode cX9_tells 224 = .ok (.iadd, 1) := by decide +kernel
theorem dX9_tells_225 : decode cX9_tells 225 = .ok (.iaload, 1) := by decide +kernel
theorem dX9_tells_226 : decode cX9_tells 226 = .ok (.if_icmp .ge 58, 3) := by decide +kernel
theorem dX9_tells_229 : decode cX9_tells 229 = .ok (.aload_n 0, 1) := by decide +kernel
theorem dX9_tells_230 : decode cX9_tells 230 = .ok (.getfield 319, 3) := by decide +kernel
theorem dX9_tells_233 : decode cX9_tells 233 = .ok (.iconst 2, 1) := by decide +kernel
theorem dX9_tells_234 : decode cX9_tells 234 = .ok (.iadd, 1) := by decide +kernel
theorem dX9_tells_235 : decode cX9_tells 235 = .ok (.bipush 8, 2) := by decide +kernel
theorem dX9_tells_237 : decode cX9_tells 237 = .ok (.iload 8, 2) := by decide +kernel
theorem dX9_tells_239 : decode cX9_tells 239 = .ok (.imul, 1) := by decide +kernel
theorem dX9_tells_240 : decode cX9_tells 240 = .ok (.iadd, 1) := by decide +kernel
theorem dX9_tells_241 : decode cX9_tells 241 = .ok (.istore 9, 2) := by decide +kernel
theorem dX9_tells_243 : decode cX9_tells 243 = .ok (.aload_n 0, 1) := by decide +kernel
theorem dX9_tells_244 : decode cX9_tells 244 = .ok (.getfield 13, 3) := by decide +kernel
theorem dX9_tells_247 : decode cX9_tells 247 = .ok (.iload 9, 2) := by decide +kernel
theorem dX9_tells_249 : decode cX9_tells 249 = .ok (.iaload, 1) := by decide +kernel
theorem dX9_tells_250 : decode cX9_tells 250 = .ok (.iload_n 1, 1) := by decide +kernel
theorem dX9_tells_251 : decode cX9_tells 251 = .ok (.if_icmp .ne 27, 3) := by decide +kernel
theorem dX9_tells_254 : decode cX9_tells 254 = .ok (.aload_n 0, 1) := by decide +kernel
theorem dX9_tells_255 : decode cX9_tells 255 = .ok (.iload 9, 2) := by decide +kernel
theorem dX9_tells_257 : decode cX9_tells 257 = .ok (.invokevirtual 342, 3) := by decide +kernel
theorem dX9_tells_260 : decode cX9_tells 260 = .ok (.ifCond .eq 18, 3) := by decide +kernel
theorem dX9_tells_263 : decode cX9_tells 263 = .ok (.iload_n 1, 1) := by decide +kernel
theorem dX9_tells_264 : decode cX9_tells 264 = .ok (.iconst 2, 1) := by decide +kernel
theorem dX9_tells_265 : decode cX9_tells 265 = .ok (.if_icmp .ge 10, 3) := by decide +kernel
theorem dX9_tells_268 : decode cX9_tells 268 = .ok (.aload_n 0, 1) := by decide +kernel
theorem dX9_tells_269 : decode cX9_tells 269 = .ok (.getfield 336, 3) := by decide +kernel
theorem dX9_tells_272 : decode cX9_tells 272 = .ok (.goto 4, 3) := by decide +kernel
theorem dX9_tells_275 : decode cX9_tells 275 = .ok (.lconst 1, 1) := by decide +kernel
theorem dX9_tells_276 : decode cX9_tells 276 = .ok (.lstore 6, 2) := by decide +kernel
theorem dX9_tells_278 : decode cX9_tells 278 = .ok (.iinc 8 1, 3) := by decide +kernel
theorem dX9_tells_281 : decode cX9_tells 281 = .ok (.goto (-68), 3) := by decide +kernel
theorem dX9_tells_284 : decode cX9_tells 284 = .ok (.lload 6, 2) := by decide +kernel
theorem dX9_tells_286 : decode cX9_tells 286 = .ok (.lconst 0, 1) := by decide +kernel
theorem dX9_tells_287 : decode cX9_tells 287 = .ok (.lcmp, 1) := by decide +kernel
theorem dX9_tells_288 : decode cX9_tells 288 = .ok (.ifCond .ge 7, 3) := by decide +kernel
theorem dX9_tells_291 : decode cX9_tells 291 = .ok (.iconst 0, 1) := by decide +kernel
theorem dX9_tells_292 : decode cX9_tells 292 = .ok (.goto 20, 3) := by decide +kernel
theorem dX9_tells_295 : decode cX9_tells 295 = .ok (.lload 6, 2) := by decide +kernel
theorem dX9_tells_297 : decode cX9_tells 297 = .ok (.iload 5, 2) := by decide +kernel
theorem dX9_tells_299 : decode cX9_tells 299 = .ok (.i2l, 1) := by decide +kernel
theorem dX9_tells_300 : decode cX9_tells 300 = .ok (.lcmp, 1) := by decide +kernel
theorem dX9_tells_301 : decode cX9_tells 301 = .ok (.ifCond .le 8, 3) := by decide +kernel
theorem dX9_tells_304 : decode cX9_tells 304 = .ok (.iload 5, 2) := by decide +kernel
theorem dX9_tells_306 : decode cX9_tells 306 = .ok (.goto 6, 3) := by decide +kernel
theorem dX9_tells_309 : decode cX9_tells 309 = .ok (.lload 6, 2) := by decide +kernel
theorem dX9_tells_311 : decode cX9_tells 311 = .ok (.l2i, 1) := by decide +kernel
theorem dX9_tells_312 : decode cX9_tells 312 = .ok (.ireturn, 1) := by decide +kernel
def bX9_tells_0 (l : Launch) (E : Ev) (d : Nat) (Q : Option Value → Hp → Prop) : Kt := k_aload 0 (k_getR 9 55 3 (k_push (.int 3) (k_iaload (k_push (.int (-1)) (k_icmp_ne (k_aload 0 (k_push (.int 180) (k_push (.int 900) (k_aload 0 (k_getR 9 55 3 (k_push (.int 3) (k_iaload (k_imul (k_iadd (k_putI 9 55 27 (k_aload 0 (k_getR 9 55 28 (k_push (.int 1) (k_iload 2 (k_i2l (k_lastore (k_aload 0 (k_getR 9 55 28 (k_push (.int 2) (k_iload 3 (k_i2l (k_lastore (k_aload 0 (k_getR 9 55 28 (k_push (.int 3) (k_aload 0 (k_getR 9 55 3 (k_push (.int 10) (k_push (.int 4) (k_iload 2 (k_imul (k_iadd (k_iaload (k_i2l (k_lastore (k_aload 0 (k_getR 9 55 28 (k_push (.int 4) (k_aload 0 (k_getR 9 55 3 (k_push (.int 10) (k_push (.int 4) (k_iload 2 (k_imul (k_iadd (k_push (.int 1) (k_iadd (k_iaload (k_i2l (k_lastore (k_aload 0 (k_getR 9 55 28 (k_push (.int 5) (k_aload 0 (k_getR 9 55 3 (k_push (.int 42) (k_push (.int 4) (k_iload 3 (k_imul (k_iadd (k_iaload (k_i2l (k_lastore (k_aload 0 (k_getR 9 55 28 (k_push (.int 6) (k_aload 0 (k_getR 9 55 3 (k_push (.int 10) (k_push (.int 4) (k_iload 2 (k_imul (k_iadd (k_push (.int 2) (k_iadd (k_iaload (k_i2l (k_lastore (k_aload 0 (k_getR 9 55 28 (k_push (.int 7) (k_aload 0 (k_getR 9 55 3 (k_push (.int 42) (k_push (.int 4) (k_iload 3 (k_imul (k_iadd (k_push (.int 1) (k_iadd (k_iaload (k_i2l (k_lastore (k_aload 0 (k_getR 9 55 28 (k_push (.int 8) (k_aload 0 (k_getR 9 55 33 (k_push (.int 8) (k_iload 2 (k_imul (k_iload 3 (k_iadd (k_iaload (k_i2l (k_lastore (k_aload 0 (k_getR 9 55 28 (k_push (.int 9) (k_aload 0 (k_getR 9 55 3 (k_push (.int 42) (k_push (.int 4) (k_iload 3 (k_imul (k_iadd (k_push (.int 3) (k_iadd (k_iaload (k_iload 2 (k_icmp_ne (k_push (.long 0) (Go l E YX9_tells (d + 1) 0 0 Q 0 0 192)) (k_push (.long 1) (Go l E YX9_tells (d + 1) 0 0 Q 0 0 192))))))))))))))))))))))))))))))))))))))))))))))))))))))))))))))))))))))))))))))))))))))))))))))))))))))))))))))))))))))))))) (k_iload 4 (k_iret .int Q)))))))
set_option maxRecDepth 100000 in
set_option maxHeartbeats 4000000 in
theorem gX9_tells_0 {l : Launch} {E : Ev} {d : Nat} {Q : Option Value → Hp → Prop} {ls : Lv} {st : List Value} {h : Hp} (hB : bX9_tells_0 l E d Q ls st h) : Go l E YX9_tells (d + 1) 0 0 Q 0 0 0 ls st h :=
  (sd_aload_n (i := 0) rfl dX9_tells_0 (sd_getR clsX9 (f := 3) (by decide) (fun _ _ _ => rfl) mw_1181 dX9_tells_1 (sd_iconst (v := 3) (by decide) dX9_tells_4 (sd_iaload dX9_tells_5 (sd_iconst (v := (-1)) (by decide) dX9_tells_6 (sd_icmp_ne (tgt := 13) (by decide) dX9_tells_7 (sd_aload_n (i := 0) rfl dX9_tells_13 (sd_sipush (v := 180) (by decide) dX9_tells_14 (sd_sipush (v := 900) (by decide) dX9_tells_17 (sd_aload_n (i := 0) rfl dX9_tells_20 (sd_getR clsX9 (f := 3) (by decide) (fun _ _ _ => rfl) mw_1181 dX9_tells_21 (sd_iconst (v := 3) (by decide) dX9_tells_24 (sd_iaload dX9_tells_25 (sd_imul dX9_tells_26 (sd_iadd dX9_tells_27 (sd_putI clsX9 (f := 27) (by decide) (fun _ _ _ => rfl) rfl (Or.inl rfl) mw_1205 dX9_tells_28 (sd_aload_n (i := 0) rfl dX9_tells_31 (sd_getR clsX9 (f := 28) (by decide) (fun _ _ _ => rfl) mw_1206 dX9_tells_32 (sd_iconst (v := 1) (by decide) dX9_tells_35 (sd_iload_n (i := 2) rfl dX9_tells_36 (sd_i2l dX9_tells_37 (sd_lastore dX9_tells_38 (sd_aload_n (i := 0) rfl dX9_tells_39 (sd_getR clsX9 (f := 28) (by decide) (fun _ _ _ => rfl) mw_1206 dX9_tells_40 (sd_iconst (v := 2) (by decide) dX9_tells_43 (sd_iload_n (i := 3) rfl dX9_tells_44 (sd_i2l dX9_tells_45 (sd_lastore dX9_tells_46 (sd_aload_n (i := 0) rfl dX9_tells_47 (sd_getR clsX9 (f := 28) (by decide) (fun _ _ _ => rfl) mw_1206 dX9_tells_48 (sd_iconst (v := 3) (by decide) dX9_tells_51 (sd_aload_n (i := 0) rfl dX9_tells_52 (sd_getR clsX9 (f := 3) (by decide) (fun _ _ _ => rfl) mw_1181 dX9_tells_53 (sd_bipush (v := 10) (by decide) dX9_tells_56 (sd_iconst (v := 4) (by decide) dX9_tells_58 (sd_iload_n (i := 2) rfl dX9_tells_59 (sd_imul dX9_tells_60 (sd_iadd dX9_tells_61 (sd_iaload dX9_tells_62 (sd_i2l dX9_tells_63 (sd_lastore dX9_tells_64 (sd_aload_n (i := 0) rfl dX9_tells_65 (sd_getR clsX9 (f := 28) (by decide) (fun _ _ _ => rfl) mw_1206 dX9_tells_66 (sd_iconst (v := 4) (by decide) dX9_tells_69 (sd_aload_n (i := 0) rfl dX9_tells_70 (sd_getR clsX9 (f := 3) (by decide) (fun _ _ _ => rfl) mw_1181 dX9_tells_71 (sd_bipush (v := 10) (by decide) dX9_tells_74 (sd_iconst (v := 4) (by decide) dX9_tells_76 (sd_iload_n (i := 2) rfl dX9_tells_77 (sd_imul dX9_tells_78 (sd_iadd dX9_tells_79 (sd_iconst (v := 1) (by decide) dX9_tells_80 (sd_iadd dX9_tells_81 (sd_iaload dX9_tells_82 (sd_i2l dX9_tells_83 (sd_lastore dX9_tells_84 (sd_aload_n (i := 0) rfl dX9_tells_85 (sd_getR clsX9 (f := 28) (by decide) (fun _ _ _ => rfl) mw_1206 dX9_tells_86 (sd_iconst (v := 5) (by decide) dX9_tells_89 (sd_aload_n (i := 0) rfl dX9_tells_90 (sd_getR clsX9 (f := 3) (by decide) (fun _ _ _ => rfl) mw_1181 dX9_tells_91 (sd_bipush (v := 42) (by decide) dX9_tells_94 (sd_iconst (v := 4) (by decide) dX9_tells_96 (sd_iload_n (i := 3) rfl dX9_tells_97 (sd_imul dX9_tells_98 (sd_iadd dX9_tells_99 (sd_iaload dX9_tells_100 (sd_i2l dX9_tells_101 (sd_lastore dX9_tells_102 (sd_aload_n (i := 0) rfl dX9_tells_103 (sd_getR clsX9 (f := 28) (by decide) (fun _ _ _ => rfl) mw_1206 dX9_tells_104 (sd_bipush (v := 6) (by decide) dX9_tells_107 (sd_aload_n (i := 0) rfl dX9_tells_109 (sd_getR clsX9 (f := 3) (by decide) (fun _ _ _ => rfl) mw_1181 dX9_tells_110 (sd_bipush (v := 10) (by decide) dX9_tells_113 (sd_iconst (v := 4) (by decide) dX9_tells_115 (sd_iload_n (i := 2) rfl dX9_tells_116 (sd_imul dX9_tells_117 (sd_iadd dX9_tells_118 (sd_iconst (v := 2) (by decide) dX9_tells_119 (sd_iadd dX9_tells_120 (sd_iaload dX9_tells_121 (sd_i2l dX9_tells_122 (sd_lastore dX9_tells_123 (sd_aload_n (i := 0) rfl dX9_tells_124 (sd_getR clsX9 (f := 28) (by decide) (fun _ _ _ => rfl) mw_1206 dX9_tells_125 (sd_bipush (v := 7) (by decide) dX9_tells_128 (sd_aload_n (i := 0) rfl dX9_tells_130 (sd_getR clsX9 (f := 3) (by decide) (fun _ _ _ => rfl) mw_1181 dX9_tells_131 (sd_bipush (v := 42) (by decide) dX9_tells_134 (sd_iconst (v := 4) (by decide) dX9_tells_136 (sd_iload_n (i := 3) rfl dX9_tells_137 (sd_imul dX9_tells_138 (sd_iadd dX9_tells_139 (sd_iconst (v := 1) (by decide) dX9_tells_140 (sd_iadd dX9_tells_141 (sd_iaload dX9_tells_142 (sd_i2l dX9_tells_143 (sd_lastore dX9_tells_144 (sd_aload_n (i := 0) rfl dX9_tells_145 (sd_getR clsX9 (f := 28) (by decide) (fun _ _ _ => rfl) mw_1206 dX9_tells_146 (sd_bipush (v := 8) (by decide) dX9_tells_149 (sd_aload_n (i := 0) rfl dX9_tells_151 (sd_getR clsX9 (f := 33) (by decide) (fun _ _ _ => rfl) mw_1211 dX9_tells_152 (sd_bipush (v := 8) (by decide) dX9_tells_155 (sd_iload_n (i := 2) rfl dX9_tells_157 (sd_imul dX9_tells_158 (sd_iload_n (i := 3) rfl dX9_tells_159 (sd_iadd dX9_tells_160 (sd_iaload dX9_tells_161 (sd_i2l dX9_tells_162 (sd_lastore dX9_tells_163 (sd_aload_n (i := 0) rfl dX9_tells_164 (sd_getR clsX9 (f := 28) (by decide) (fun _ _ _ => rfl) mw_1206 dX9_tells_165 (sd_bipush (v := 9) (by decide) dX9_tells_168 (sd_aload_n (i := 0) rfl dX9_tells_170 (sd_getR clsX9 (f := 3) (by decide) (fun _ _ _ => rfl) mw_1181 dX9_tells_171 (sd_bipush (v := 42) (by decide) dX9_tells_174 (sd_iconst (v := 4) (by decide) dX9_tells_176 (sd_iload_n (i := 3) rfl dX9_tells_177 (sd_imul dX9_tells_178 (sd_iadd dX9_tells_179 (sd_iconst (v := 3) (by decide) dX9_tells_180 (sd_iadd dX9_tells_181 (sd_iaload dX9_tells_182 (sd_iload_n (i := 2) rfl dX9_tells_183 (sd_icmp_ne (tgt := 191) (by decide) dX9_tells_184 (sd_lconst (v := 0) (by decide) dX9_tells_191 (Sd.go)) (sd_lconst (v := 1) (by decide) dX9_tells_187 (sd_goto (tgt := 192) (by decide) dX9_tells_188 (Sd.go)))))))))))))))))))))))))))))))))))))))))))))))))))))))))))))))))))))))))))))))))))))))))))))))))))))))))))))))))))))))))))) (sd_iload (n := 4) dX9_tells_10 (sd_iret (ty := .int) rfl (by decide) (by decide) dX9_tells_12))))))) : Sd l E YX9_tells (d + 1) 0 0 Q 0 0 0 (bX9_tells_0 l E d Q)) ls st h hB
def bX9_tells_192 (l : Launch) (E : Ev) (d : Nat) (Q : Option Value → Hp → Prop) : Kt := k_lastore (k_aload 0 (k_getR 9 55 28 (k_push (.int 10) (k_aload 0 (k_getI 9 55 34 (k_i2l (k_lastore (k_iload 4 (k_i2l (k_lstore 6 (k_push (.int 0) (k_istore 8 (Go l E YX9_tells (d + 1) 0 0 Q 0 0 213)))))))))))))
set_option maxRecDepth 100000 in
set_option maxHeartbeats 4000000 in
theorem gX9_tells_192 {l : Launch} {E : Ev} {d : Nat} {Q : Option Value → Hp → Prop} {ls : Lv} {st : List Value} {h : Hp} (hB : bX9_tells_192 l E d Q ls st h) : Go l E YX9_tells (d + 1) 0 0 Q 0 0 192 ls st h :=
  (sd_lastore dX9_tells_192 (sd_aload_n (i := 0) rfl dX9_tells_193 (sd_getR clsX9 (f := 28) (by decide) (fun _ _ _ => rfl) mw_1206 dX9_tells_194 (sd_bipush (v := 10) (by decide) dX9_tells_197 (sd_aload_n (i := 0) rfl dX9_tells_199 (sd_getI clsX9 (f := 34) (by decide) (fun _ _ _ => rfl) mw_1212 dX9_tells_200 (sd_i2l dX9_tells_203 (sd_lastore dX9_tells_204 (sd_iload (n := 4) dX9_tells_205 (sd_i2l dX9_tells_207 (sd_lstore (i := 6) (by decide) dX9_tells_208 (sd_iconst (v := 0) (by decide) dX9_tells_210 (sd_istore (i := 8) (by decide) dX9_tells_211 (Sd.go))))))))))))) : Sd l E YX9_tells (d + 1) 0 0 Q 0 0 192 (bX9_tells_192 l E d Q)) ls st h hB
def bX9_tells_213 (l : Launch) (E : Ev) (d : Nat) (Q : Option Value → Hp → Prop) : Kt := k_iload 8 (k_aload 0 (k_getR 9 55 3 (k_aload 0 (k_getI 9 55 27 (k_push (.int 1) (k_iadd (k_iaload (k_icmp_ge (k_lload 6 (k_push (.long 0) (k_lcmp (k_if_ge (k_lload 6 (k_iload 5 (k_i2l (k_lcmp (k_if_le (k_lload 6 (k_l2i (k_iret .int Q))) (k_iload 5 (k_iret .int Q))))))) (k_push (.int 0) (k_iret .int Q)))))) (k_aload 0 (k_getI 9 55 27 (k_push (.int 2) (k_iadd (k_push (.int 8) (k_iload 8 (k_imul (k_iadd (k_istore 9 (k_aload 0 (k_getR 9 55 3 (k_iload 9 (k_iaload (k_iload 1 (k_icmp_ne (k_iinc 8 1 (Go l E YX9_tells (d + 1) 0 0 Q 0 0 213)) (k_aload 0 (k_iload 9 (k_callV l E 9 55 YX9_isSo d 0 0 1 (k_if_eq (k_iinc 8 1 (Go l E YX9_tells (d + 1) 0 0 Q 0 0 213)) (k_iload 1 (k_push (.int 2) (k_icmp_ge (k_push (.long 1) (k_lstore 6 (k_iinc 8 1 (Go l E YX9_tells (d + 1) 0 0 Q 0 0 213)))) (k_aload 0 (k_getJ 9 55 32 (k_lstore 6 (k_iinc 8 1 (Go l E YX9_tells (d + 1) 0 0 Q 0 0 213)))))))))))))))))))))))))))))))))))
set_option maxRecDepth 100000 in
set_option maxHeartbeats 4000000 in
theorem gX9_tells_213 {l : Launch} {E : Ev} {d : Nat} {Q : Option Value → Hp → Prop} {ls : Lv} {st : List Value} {h : Hp} (hB : bX9_tells_213 l E d Q ls st h) : Go l E YX9_tells (d + 1) 0 0 Q 0 0 213 ls st h :=
  (sd_iload (n := 8) dX9_tells_213 (sd_aload_n (i := 0) rfl dX9_tells_215 (sd_getR clsX9 (f := 3) (by decide) (fun _ _ _ => rfl) mw_1181 dX9_tells_216 (sd_aload_n (i := 0) rfl dX9_tells_219 (sd_getI clsX9 (f := 27) (by decide) (fun _ _ _ => rfl) mw_1205 dX9_tells_220 (sd_iconst (v := 1) (by decide) dX9_tells_223 (sd_iadd dX9_tells_224 (sd_iaload dX9_tells_225 (sd_icmp_ge (tgt := 284) (by decide) dX9_tells_226 (sd_lload (n := 6) dX9_tells_284 (sd_lconst (v := 0) (by decide) dX9_tells_286 (sd_lcmp dX9_tells_287 (sd_if_ge (tgt := 295) (by decide) dX9_tells_288 (sd_lload (n := 6) dX9_tells_295 (sd_iload (n := 5) dX9_tells_297 (sd_i2l dX9_tells_299 (sd_lcmp dX9_tells_300 (sd_if_le (tgt := 309) (by decide) dX9_tells_301 (sd_lload (n := 6) dX9_tells_309 (sd_l2i dX9_tells_311 (sd_iret (ty := .int) rfl (by decide) (by decide) dX9_tells_312))) (sd_iload (n := 5) dX9_tells_304 (sd_goto (tgt := 312) (by decide) dX9_tells_306 (sd_iret (ty := .int) rfl (by decide) (by decide) dX9_tells_312)))))))) (sd_iconst (v := 0) (by decide) dX9_tells_291 (sd_goto (tgt := 312) (by decide) dX9_tells_292 (sd_iret (ty := .int) rfl (by decide) (by decide) dX9_tells_312))))))) (sd_aload_n (i := 0) rfl dX9_tells_229 (sd_getI clsX9 (f := 27) (by decide) (fun _ _ _ => rfl) mw_1205 dX9_tells_230 (sd_iconst (v := 2) (by decide) dX9_tells_233 (sd_iadd dX9_tells_234 (sd_bipush (v := 8) (by decide) dX9_tells_235 (sd_iload (n := 8) dX9_tells_237 (sd_imul dX9_tells_239 (sd_iadd dX9_tells_240 (sd_istore (i := 9) (by decide) dX9_tells_241 (sd_aload_n (i := 0) rfl dX9_tells_243 (sd_getR clsX9 (f := 3) (by decide) (fun _ _ _ => rfl) mw_1181 dX9_tells_244 (sd_iload (n := 9) dX9_tells_247 (sd_iaload dX9_tells_249 (sd_iload_n (i := 1) rfl dX9_tells_250 (sd_icmp_ne (tgt := 278) (by decide) dX9_tells_251 (sd_iinc (i := 8) (v := 1) (by decide) (by decide) dX9_tells_278 (sd_goto (tgt := 213) (by decide) dX9_tells_281 (Sd.go))) (sd_aload_n (i := 0) rfl dX9_tells_254 (sd_iload (n := 9) dX9_tells_255 (sd_callV (Y' := YX9_isSo) (mc' := 0) (ms' := 0) (n := 1) clsX9.1 mw_1571 mw_1573 mw_74 mw_108 mw_1574 rfl (okmX9_isSo) (by decide) (Nat.le_refl _) (by decide) (by decide) dX9_tells_257 (sd_if_eq (tgt := 278) (by decide) dX9_tells_260 (sd_iinc (i := 8) (v := 1) (by decide) (by decide) dX9_tells_278 (sd_goto (tgt := 213) (by decide) dX9_tells_281 (Sd.go))) (sd_iload_n (i := 1) rfl dX9_tells_263 (sd_iconst (v := 2) (by decide) dX9_tells_264 (sd_icmp_ge (tgt := 275) (by decide) dX9_tells_265 (sd_lconst (v := 1) (by decide) dX9_tells_275 (sd_lstore (i := 6) (by decide) dX9_tells_276 (sd_iinc (i := 8) (v := 1) (by decide) (by decide) dX9_tells_278 (sd_goto (tgt := 213) (by decide) dX9_tells_281 (Sd.go))))) (sd_aload_n (i := 0) rfl dX9_tells_268 (sd_getJ clsX9 (f := 32) (by decide) (fun _ _ _ => rfl) mw_1210 dX9_tells_269 (sd_goto (tgt := 276) (by decide) dX9_tells_272 (sd_lstore (i := 6) (by decide) dX9_tells_276 (sd_iinc (i := 8) (v := 1) (by decide) (by decide) dX9_tells_278 (sd_goto (tgt := 213) (by decide) dX9_tells_281 (Sd.go))))))))))))))))))))))))))))))))))))) : Sd l E YX9_tells (d + 1) 0 0 Q 0 0 213 (bX9_tells_213 l E d Q)) ls st h hB
theorem eX9_tells {l : Launch} {E : Ev} {d : Nat} {Q : Option Value → Hp → Prop} {h : Hp} {a0 : Nat} {x1 : Int32} {x2 : Int32} {x3 : Int32} {x4 : Int32} {x5 : Int32} (hk : Go l E YX9_tells d 0 0 Q 0 0 0 [some (.ref a0), some (.int x1), some (.int x2), some (.int x3), some (.int x4), some (.int x5), none, none, none, none] [] h) : GoM l E YX9_tells d 0 0 [.ref a0, .int x1, .int x2, .int x3, .int x4, .int x5] h Q := GoM.of (by decide +kernel) rfl (by simp [entA, YX9_tells]) hk
theorem dX9_asIs_0 : decode cX9_asIs 0 = .ok (.iconst 0, 1) := by decide +kernel
theorem dX9_asIs_1 : decode cX9_asIs 1 = .ok (.istore_n 1, 1) := by decide +kernel
theorem dX9_asIs_2 : decode cX9_asIs 2 = .ok (.iload_n 1, 1) := by decide +kernel
theorem dX9_asIs_3 : decode cX9_asIs 3 = .ok (.bipush 64, 2) := by decide +kernel
theorem dX9_asIs_5 : decode cX9_asIs 5 = .ok (.if_icmp .ge 24, 3) := by decide +kernel
theorem dX9_asIs_8 : decode cX9_asIs 8 = .ok (.aload_n 0, 1) := by decide +kernel
theorem dX9_asIs_9 : decode cX9_asIs 9 = .ok (.getfield 86, 3) := by decide +kernel
theorem dX9_asIs_12 : decode cX9_asIs 12 = .ok (.iload_n 1, 1) := by decide +kernel
theorem dX9_asIs_13 : decode cX9_asIs 13 = .ok (.aload_n 0, 1) := by decide +kernel
theorem dX9_asIs_14 : decode cX9_asIs 14 = .ok (.getfield 13, 3) := by decide +kernel
theorem dX9_asIs_17 : decode cX9_asIs 17 = .ok (.bipush 74, 2) := by decide +kernel
theorem dX9_asIs_19 : decode cX9_asIs 19 = .ok (.iload_n 1, 1) := by decide +kernel
theorem dX9_asIs_20 : decode cX9_asIs 20 = .ok (.iadd, 1) := by decide +kernel
theorem dX9_asIs_21 : decode cX9_asIs 21 = .ok (.iaload, 1) := by decide +kernel
theorem dX9_asIs_22 : decode cX9_asIs 22 = .ok (.iastore, 1) := by decide +kernel
theorem dX9_asIs_23 : decode cX9_asIs 23 = .ok (.iinc 1 1, 3) := by decide +kernel
theorem dX9_asIs_26 : decode cX9_asIs 26 = .ok (.goto (-24), 3) := by decide +kernel
theorem dX9_asIs_29 : decode cX9_asIs 29 = .ok (.aload_n 0, 1) := by decide +kernel
theorem dX9_asIs_30 : decode cX9_asIs 30 = .ok (.aload_n 0, 1) := by decide +kernel
theorem dX9_asIs_31 : decode cX9_asIs 31 = .ok (.getfield 13, 3) := by decide +kernel
theorem dX9_asIs_34 : decode cX9_asIs 34 = .ok (.bipush 7, 2) := by decide +kernel
theorem dX9_asIs_36 : decode cX9_asIs 36 = .ok (.iaload, 1) := by decide +kernel
theorem dX9_asIs_37 : decode cX9_asIs 37 = .ok (.putfield 339, 3) := by decide +kernel
theorem dX9_asIs_40 : decode cX9_asIs 40 = .ok (.return_, 1) := by decide +kernel
def bX9_asIs_0 (l : Launch) (E : Ev) (d : Nat) (Q : Option Value → Hp → Prop) : Kt := k_push (.int 0) (k_istore 1 (Go l E YX9_asIs (d + 1) 0 0 Q 0 0 2))
set_option maxRecDepth 100000 in
set_option maxHeartbeats 4000000 in
theorem gX9_asIs_0 {l : Launch} {E : Ev} {d : Nat} {Q : Option Value → Hp → Prop} {ls : Lv} {st : List Value} {h : Hp} (hB : bX9_asIs_0 l E d Q ls st h) : Go l E YX9_asIs (d + 1) 0 0 Q 0 0 0 ls st h :=
  (sd_iconst (v := 0) (by decide) dX9_asIs_0 (sd_istore_n (i := 1) rfl (by decide) dX9_asIs_1 (Sd.go)) : Sd l E YX9_asIs (d + 1) 0 0 Q 0 0 0 (bX9_asIs_0 l E d Q)) ls st h hB
def bX9_asIs_2 (l : Launch) (E : Ev) (d : Nat) (Q : Option Value → Hp → Prop) : Kt := k_iload 1 (k_push (.int 64) (k_icmp_ge (k_aload 0 (k_aload 0 (k_getR 9 55 3 (k_push (.int 7) (k_iaload (k_putI 9 55 34 (k_vret Q))))))) (k_aload 0 (k_getR 9 55 33 (k_iload 1 (k_aload 0 (k_getR 9 55 3 (k_push (.int 74) (k_iload 1 (k_iadd (k_iaload (k_iastore (k_iinc 1 1 (Go l E YX9_asIs (d + 1) 0 0 Q 0 0 2))))))))))))))
set_option maxRecDepth 100000 in
set_option maxHeartbeats 4000000 in
theorem gX9_asIs_2 {l : Launch} {E : Ev} {d : Nat} {Q : Option Value → Hp → Prop} {ls : Lv} {st : List Value} {h : Hp} (hB : bX9_asIs_2 l E d Q ls st h) : Go l E YX9_asIs (d + 1) 0 0 Q 0 0 2 ls st h :=
  (sd_iload_n (i := 1) rfl dX9_asIs_2 (sd_bipush (v := 64) (by decide) dX9_asIs_3 (sd_icmp_ge (tgt := 29) (by decide) dX9_asIs_5 (sd_aload_n (i := 0) rfl dX9_asIs_29 (sd_aload_n (i := 0) rfl dX9_asIs_30 (sd_getR clsX9 (f := 3) (by decide) (fun _ _ _ => rfl) mw_1181 dX9_asIs_31 (sd_bipush (v := 7) (by decide) dX9_asIs_34 (sd_iaload dX9_asIs_36 (sd_putI clsX9 (f := 34) (by decide) (fun _ _ _ => rfl) rfl (Or.inl rfl) mw_1212 dX9_asIs_37 (sd_vret rfl (by decide) (by decide) dX9_asIs_40))))))) (sd_aload_n (i := 0) rfl dX9_asIs_8 (sd_getR clsX9 (f := 33) (by decide) (fun _ _ _ => rfl) mw_1211 dX9_asIs_9 (sd_iload_n (i := 1) rfl dX9_asIs_12 (sd_aload_n (i := 0) rfl dX9_asIs_13 (sd_getR clsX9 (f := 3) (by decide) (fun _ _ _ => rfl) mw_1181 dX9_asIs_14 (sd_bipush (v := 74) (by decide) dX9_asIs_17 (sd_iload_n (i := 1) rfl dX9_asIs_19 (sd_iadd dX9_asIs_20 (sd_iaload dX9_asIs_21 (sd_iastore dX9_asIs_22 (sd_iinc (i := 1) (v := 1) (by decide) (by decide) dX9_asIs_23 (sd_goto (tgt := 2) (by decide) dX9_asIs_26 (Sd.go))))))))))))))) : Sd l E YX9_asIs (d + 1) 0 0 Q 0 0 2 (bX9_asIs_2 l E d Q)) ls st h hB
theorem eX9_asIs {l : Launch} {E : Ev} {d : Nat} {Q : Option Value → Hp → Prop} {h : Hp} {a0 : Nat} (hk : Go l E YX9_asIs d 0 0 Q 0 0 0 [some (.ref a0), none] [] h) : GoM l E YX9_asIs d 0 0 [.ref a0] h Q := GoM.of (by decide +kernel) rfl (by simp [entA, YX9_asIs]) hk
theorem dX9_find_0 : decode cX9_find 0 = .ok (.iconst 0, 1) := by decide +kernel
theorem dX9_find_1 : decode cX9_find 1 = .ok (.istore_n 1, 1) := by decide +kernel
theorem dX9_find_2 : decode cX9_find 2 = .ok (.iload_n 1, 1) := by decide +kernel
theorem dX9_find_3 : decode cX9_find 3 = .ok (.aload_n 0, 1) := by decide +kernel
theorem dX9_find_4 : decode cX9_find 4 = .ok (.getfield 13, 3) := by decide +kernel
theorem dX9_find_7 : decode cX9_find 7 = .ok (.iconst 0, 1) := by decide +kernel
theorem dX9_find_8 : decode cX9_find 8 = .ok (.iaload, 1) := by decide +kernel
theorem dX9_find_9 : decode cX9_find 9 = .ok (.if_icmp .ge 134, 3) := by decide +kernel
theorem dX9_find_12 : decode cX9_find 12 = .ok (.iconst 0, 1) := by decide +kernel
theorem dX9_find_13 : decode cX9_find 13 = .ok (.istore_n 2, 1) := by decide +kernel
theorem dX9_find_14 : decode cX9_find 14 = .ok (.iload_n 2, 1) := by decide +kernel
theorem dX9_find_15 : decode cX9_find 15 = .ok (.aload_n 0, 1) := by decide +kernel
theorem dX9_find_16 : decode cX9_find 16 = .ok (.getfield 13, 3) := by decide +kernel
theorem dX9_find_19 : decode cX9_find 19 = .ok (.iconst 1, 1) := by decide +kernel
theorem dX9_find_20 : decode cX9_find 20 = .ok (.iaload, 1) := by decide +kernel
theorem dX9_find_21 : decode cX9_find 21 = .ok (.if_icmp .ge 116, 3) := by decide +kernel
theorem dX9_find_24 : decode cX9_find 24 = .ok (.bipush 8, 2) := by decide +kernel
theorem dX9_find_26 : decode cX9_find 26 = .ok (.iload_n 1, 1) := by decide +kernel
theorem dX9_find_27 : decode cX9_find 27 = .ok (.imul, 1) := by decide +kernel
theorem dX9_find_28 : decode cX9_find 28 = .ok (.iload_n 2, 1) := by decide +kernel
theorem dX9_find_29 : decode cX9_find 29 = .ok (.iadd, 1) := by decide +kernel
theorem dX9_find_30 : decode cX9_find 30 = .ok (.istore_n 3, 1) := by decide +kernel
theorem dX9_find_31 : decode cX9_find 31 = .ok (.aload_n 0, 1) := by decide +kernel
theorem dX9_find_32 : decode cX9_find 32 = .ok (.getfield 86, 3) := by decide +kernel
theorem dX9_find_35 : decode cX9_find 35 = .ok (.iload_n 3, 1) := by decide +kernel
theorem dX9_find_36 : decode cX9_find 36 = .ok (.iaload, 1) := by decide +kernel
theorem dX9_find_37 : decode cX9_find 37 = .ok (.aload_n 0, 1) := by decide +kernel
theorem dX9_find_38 : decode cX9_find 38 = .ok (.getfield 13, 3) := by decide +kernel
theorem dX9_find_41 : decode cX9_find 41 = .ok (.iconst 5, 1) := by decide +kernel
theorem dX9_find_42 : decode cX9_find 42 = .ok (.iaload, 1) := by decide +kernel
theorem dX9_find_43 : decode cX9_find 43 = .ok (.if_icmp .ge 16, 3) := by decide +kernel
theorem dX9_find_46 : decode cX9_find 46 = .ok (.aload_n 0, 1) := by decide +kernel
theorem dX9_find_47 : decode cX9_find 47 = .ok (.iconst 3, 1) := by decide +kernel
theorem dX9_find_48 : decode cX9_find 48 = .ok (.iload_n 1, 1) := by decide +kernel
theorem dX9_find_49 : decode cX9_find 49 = .ok (.iload_n 2, 1) := by decide +kernel
theorem dX9_find_50 : decode cX9_find 50 = .ok (.iconst 0, 1) := by decide +kernel
theorem dX9_find_51 : decode cX9_find 51 = .ok (.iconst 1, 1) := by decide +kernel
theorem dX9_find_52 : decode cX9_find 52 = .ok (.invokevirtual 345, 3) := by decide +kernel
theorem dX9_find_55 : decode cX9_find 55 = .ok (.iconst 1, 1) := by decide +kernel
theorem dX9_find_56 : decode cX9_find 56 = .ok (.if_icmp .ne 7, 3) := by decide +kernel
theorem dX9_find_59 : decode cX9_find 59 = .ok (.iconst 1, 1) := by decide +kernel
theorem dX9_find_60 : decode cX9_find 60 = .ok (.goto 4, 3) := by decide +kernel
theorem dX9_find_63 : decode cX9_find 63 = .ok (.iconst 0, 1) := by decide +kernel
theorem dX9_find_64 : decode cX9_find 64 = .ok (.istore 4, 2) := by decide +kernel
theorem dX9_find_66 : decode cX9_find 66 = .ok (.aload_n 0, 1) := by decide +kernel
theorem dX9_find_67 : decode cX9_find 67 = .ok (.getfield 89, 3) := by decide +kernel
theorem dX9_find_70 : decode cX9_find 70 = .ok (.iload_n 3, 1) := by decide +kernel
theorem dX9_find_71 : decode cX9_find 71 = .ok (.iload 4, 2) := by decide +kernel
theorem dX9_find_73 : decode cX9_find 73 = .ok (.ifCond .eq 19, 3) := by decide +kernel
theorem dX9_find_76 : decode cX9_find 76 = .ok (.aload_n 0, 1) := by decide +kernel
theorem dX9_find_77 : decode cX9_find 77 = .ok (.iconst 2, 1) := by decide +kernel
theorem dX9_find_78 : decode cX9_find 78 = .ok (.iload_n 1, 1) := by decide +kernel
theorem dX9_find_79 : decode cX9_find 79 = .ok (.iload_n 2, 1) := by decide +kernel
theorem dX9_find_80 : decode cX9_find 80 = .ok (.iconst 0, 1) := by decide +kernel
theorem dX9_find_81 : decode cX9_find 81 = .ok (.iconst 1, 1) := by decide +kernel
theorem dX9_find_82 : decode cX9_find 82 = .ok (.invokevirtual 345, 3) := by decide +kernel
theorem dX9_find_85 : decode cX9_find 85 = .ok (.ifCond .ne 7, 3) := by decide +kernel
theorem dX9_find_88 : decode cX9_find 88 = .ok (.iconst 1, 1) := by decide +kernel
theorem dX9_find_89 : decode cX9_find 89 = .ok (.goto 4, 3) := by decide +kernel
theorem dX9_find_92 : decode cX9_find 92 = .ok (.iconst 0, 1) := by decide +kernel
theorem dX9_find_93 : decode cX9_find 93 = .ok (.bastore, 1) := by decide +kernel
theorem dX9_find_94 : decode cX9_find 94 = .ok (.aload_n 0, 1) := by decide +kernel
theorem dX9_find_95 : decode cX9_find 95 = .ok (.getfield 92, 3) := by decide +kernel
theorem dX9_find_98 : decode cX9_find 98 = .ok (.iload_n 3, 1) := by decide +kernel
theorem dX9_find_99 : decode cX9_find 99 = .ok (.aload_n 0, 1) := by decide +kernel
theorem dX9_find_100 : decode cX9_find 100 = .ok (.iconst 0, 1) := by decide +kernel
theorem dX9_find_101 : decode cX9_find 101 = .ok (.iload_n 1, 1) := by decide +kernel
theorem dX9_find_102 : decode cX9_find 102 = .ok (.iload_n 2, 1) := by decide +kernel
theorem dX9_find_103 : decode cX9_find 103 = .ok (.aload_n 0, 1) := by decide +kernel
theorem dX9_find_104 : decode cX9_find 104 = .ok (.getfield 13, 3) := by decide +kernel
theorem dX9_find_107 : decode cX9_find 107 = .ok (.bipush 42, 2) := by decide +kernel
theorem dX9_find_109 : decode cX9_find 109 = .ok (.iconst 4, 1) := by decide +kernel
theorem dX9_find_110 : decode cX9_find 110 = .ok (.iload_n 2, 1) := by decide +kernel
theorem dX9_find_111 : decode cX9_find 111 = .ok (.imul, 1) := by decide +kernel
theorem dX9_find_112 : decode cX9_find 112 = .ok (.iadd, 1) := by decide +kernel
theorem dX9_find_113 : decode cX9_find 113 = .ok (.iconst 3, 1) := by decide +kernel
theorem dX9_find_114 : decode cX9_find 114 = .ok (.iadd, 1) := by decide +kernel
theorem dX9_find_115 : decode cX9_find 115 = .ok (.iaload, 1) := by decide +kernel
theorem dX9_find_116 : decode cX9_find 116 = .ok (.iload_n 1, 1) := by decide +kernel
theorem dX9_find_117 : decode cX9_find 117 = .ok (.if_icmp .ne 7, 3) := by decide +kernel
theorem dX9_find_120 : decode cX9_find 120 = .ok (.iconst 0, 1) := by decide +kernel
theorem dX9_find_121 : decode cX9_find 121 = .ok (.goto 4, 3) := by decide +kernel
theorem dX9_find_124 : decode cX9_find 124 = .ok (.iconst 1, 1) := by decide +kernel
theorem dX9_find_125 : decode cX9_find 125 = .ok (.bipush 99, 2) := by decide +kernel
theorem dX9_find_127 : decode cX9_find 127 = .ok (.invokevirtual 345, 3) := by decide +kernel
theorem dX9_find_130 : decode cX9_find 130 = .ok (.iastore, 1) := by decide +kernel
theorem dX9_find_131 : decode cX9_find 131 = .ok (.iinc 2 1, 3) := by decide +kernel
theorem dX9_find_134 : decode cX9_find 134 = .ok (.goto (-120), 3) := by decide +kernel
theorem dX9_find_137 : decode cX9_find 137 = .ok (.iinc 1 1, 3) := by decide +kernel
theorem dX9_find_140 : decode cX9_find 140 = .ok (.goto (-138), 3) := by decide +kernel
theorem dX9_find_143 : decode cX9_find 143 = .ok (.return_, 1) := by decide +kernel
def bX9_find_0 (l : Launch) (E : Ev) (d : Nat) (Q : Option Value → Hp → Prop) : Kt := k_push (.int 0) (k_istore 1 (Go l E YX9_find (d + 1) 0 0 Q 0 0 2))
set_option maxRecDepth 100000 in
set_option maxHeartbeats 4000000 in
theorem gX9_find_0 {l : Launch} {E : Ev} {d : Nat} {Q : Option Value → Hp → Prop} {ls : Lv} {st : List Value} {h : Hp} (hB : bX9_find_0 l E d Q ls st h) : Go l E YX9_find (d + 1) 0 0 Q 0 0 0 ls st h :=
  (sd_iconst (v := 0) (by decide) dX9_find_0 (sd_istore_n (i := 1) rfl (by decide) dX9_find_1 (Sd.go)) : Sd l E YX9_find (d + 1) 0 0 Q 0 0 0 (bX9_find_0 l E d Q)) ls st h hB
def bX9_find_2 (l : Launch) (E : Ev) (d : Nat) (Q : Option Value → Hp → Prop) : Kt := k_iload 1 (k_aload 0 (k_getR 9 55 3 (k_push (.int 0) (k_iaload (k_icmp_ge (k_vret Q) (k_push (.int 0) (k_istore 2 (Go l E YX9_find (d + 1) 0 0 Q 0 0 14))))))))
set_option maxRecDepth 100000 in
set_option maxHeartbeats 4000000 in
theorem gX9_find_2 {l : Launch} {E : Ev} {d : Nat} {Q : Option Value → Hp → Prop} {ls : Lv} {st : List Value} {h : Hp} (hB : bX9_find_2 l E d Q ls st h) : Go l E YX9_find (d + 1) 0 0 Q 0 0 2 ls st h :=
  (sd_iload_n (i := 1) rfl dX9_find_2 (sd_aload_n (i := 0) rfl dX9_find_3 (sd_getR clsX9 (f := 3) (by decide) (fun _ _ _ => rfl) mw_1181 dX9_find_4 (sd_iconst (v := 0) (by decide) dX9_find_7 (sd_iaload dX9_find_8 (sd_icmp_ge (tgt := 143) (by decide) dX9_find_9 (sd_vret rfl (by decide) (by decide) dX9_find_143) (sd_iconst (v := 0) (by decide) dX9_find_12 (sd_istore_n (i := 2) rfl (by decide) dX9_find_13 (Sd.go)))))))) : Sd l E YX9_find (d + 1) 0 0 Q 0 0 2 (bX9_find_2 l E d Q)) ls st h hB
def bX9_find_14 (l : Launch) (E : Ev) (d : Nat) (Q : Option Value → Hp → Prop) : Kt := k_iload 2 (k_aload 0 (k_getR 9 55 3 (k_push (.int 1) (k_iaload (k_icmp_ge (k_iinc 1 1 (Go l E YX9_find (d + 1) 0 0 Q 0 0 2)) (k_push (.int 8) (k_iload 1 (k_imul (k_iload 2 (k_iadd (k_istore 3 (k_aload 0 (k_getR 9 55 33 (k_iload 3 (k_iaload (k_aload 0 (k_getR 9 55 3 (k_push (.int 5) (k_iaload (k_icmp_ge (k_push (.int 1) (Go l E YX9_find (d + 1) 0 0 Q 0 0 64)) (k_aload 0 (k_push (.int 3) (k_iload 1 (k_iload 2 (k_push (.int 0) (k_push (.int 1) (k_callV l E 9 55 YX9_tells d 0 0 5 (k_push (.int 1) (k_icmp_ne (k_push (.int 0) (Go l E YX9_find (d + 1) 0 0 Q 0 0 64)) (k_push (.int 1) (Go l E YX9_find (d + 1) 0 0 Q 0 0 64)))))))))))))))))))))))))))))))
set_option maxRecDepth 100000 in
set_option maxHeartbeats 4000000 in
theorem gX9_find_14 {l : Launch} {E : Ev} {d : Nat} {Q : Option Value → Hp → Prop} {ls : Lv} {st : List Value} {h : Hp} (hB : bX9_find_14 l E d Q ls st h) : Go l E YX9_find (d + 1) 0 0 Q 0 0 14 ls st h :=
  (sd_iload_n (i := 2) rfl dX9_find_14 (sd_aload_n (i := 0) rfl dX9_find_15 (sd_getR clsX9 (f := 3) (by decide) (fun _ _ _ => rfl) mw_1181 dX9_find_16 (sd_iconst (v := 1) (by decide) dX9_find_19 (sd_iaload dX9_find_20 (sd_icmp_ge (tgt := 137) (by decide) dX9_find_21 (sd_iinc (i := 1) (v := 1) (by decide) (by decide) dX9_find_137 (sd_goto (tgt := 2) (by decide) dX9_find_140 (Sd.go))) (sd_bipush (v := 8) (by decide) dX9_find_24 (sd_iload_n (i := 1) rfl dX9_find_26 (sd_imul dX9_find_27 (sd_iload_n (i := 2) rfl dX9_find_28 (sd_iadd dX9_find_29 (sd_istore_n (i := 3) rfl (by decide) dX9_find_30 (sd_aload_n (i := 0) rfl dX9_find_31 (sd_getR clsX9 (f := 33) (by decide) (fun _ _ _ => rfl) mw_1211 dX9_find_32 (sd_iload_n (i := 3) rfl dX9_find_35 (sd_iaload dX9_find_36 (sd_aload_n (i := 0) rfl dX9_find_37 (sd_getR clsX9 (f := 3) (by decide) (fun _ _ _ => rfl) mw_1181 dX9_find_38 (sd_iconst (v := 5) (by decide) dX9_find_41 (sd_iaload dX9_find_42 (sd_icmp_ge (tgt := 59) (by decide) dX9_find_43 (sd_iconst (v := 1) (by decide) dX9_find_59 (sd_goto (tgt := 64) (by decide) dX9_find_60 (Sd.go))) (sd_aload_n (i := 0) rfl dX9_find_46 (sd_iconst (v := 3) (by decide) dX9_find_47 (sd_iload_n (i := 1) rfl dX9_find_48 (sd_iload_n (i := 2) rfl dX9_find_49 (sd_iconst (v := 0) (by decide) dX9_find_50 (sd_iconst (v := 1) (by decide) dX9_find_51 (sd_callV (Y' := YX9_tells) (mc' := 0) (ms' := 0) (n := 5) clsX9.1 mw_1567 mw_1569 mw_73 mw_108 mw_1570 rfl (okmX9_tells) (by decide) (Nat.le_refl _) (by decide) (by decide) dX9_find_52 (sd_iconst (v := 1) (by decide) dX9_find_55 (sd_icmp_ne (tgt := 63) (by decide) dX9_find_56 (sd_iconst (v := 0) (by decide) dX9_find_63 (Sd.go)) (sd_iconst (v := 1) (by decide) dX9_find_59 (sd_goto (tgt := 64) (by decide) dX9_find_60 (Sd.go)))))))))))))))))))))))))))))))) : Sd l E YX9_find (d + 1) 0 0 Q 0 0 14 (bX9_find_14 l E d Q)) ls st h hB
def bX9_find_64 (l : Launch) (E : Ev) (d : Nat) (Q : Option Value → Hp → Prop) : Kt := k_istore 4 (k_aload 0 (k_getR 9 55 35 (k_iload 3 (k_iload 4 (k_if_eq (k_push (.int 0) (Go l E YX9_find (d + 1) 0 0 Q 0 0 93)) (k_aload 0 (k_push (.int 2) (k_iload 1 (k_iload 2 (k_push (.int 0) (k_push (.int 1) (k_callV l E 9 55 YX9_tells d 0 0 5 (k_if_ne (k_push (.int 0) (Go l E YX9_find (d + 1) 0 0 Q 0 0 93)) (k_push (.int 1) (Go l E YX9_find (d + 1) 0 0 Q 0 0 93)))))))))))))))
set_option maxRecDepth 100000 in
set_option maxHeartbeats 4000000 in
theorem gX9_find_64 {l : Launch} {E : Ev} {d : Nat} {Q : Option Value → Hp → Prop} {ls : Lv} {st : List Value} {h : Hp} (hB : bX9_find_64 l E d Q ls st h) : Go l E YX9_find (d + 1) 0 0 Q 0 0 64 ls st h :=
  (sd_istore (i := 4) (by decide) dX9_find_64 (sd_aload_n (i := 0) rfl dX9_find_66 (sd_getR clsX9 (f := 35) (by decide) (fun _ _ _ => rfl) mw_1213 dX9_find_67 (sd_iload_n (i := 3) rfl dX9_find_70 (sd_iload (n := 4) dX9_find_71 (sd_if_eq (tgt := 92) (by decide) dX9_find_73 (sd_iconst (v := 0) (by decide) dX9_find_92 (Sd.go)) (sd_aload_n (i := 0) rfl dX9_find_76 (sd_iconst (v := 2) (by decide) dX9_find_77 (sd_iload_n (i := 1) rfl dX9_find_78 (sd_iload_n (i := 2) rfl dX9_find_79 (sd_iconst (v := 0) (by decide) dX9_find_80 (sd_iconst (v := 1) (by decide) dX9_find_81 (sd_callV (Y' := YX9_tells) (mc' := 0) (ms' := 0) (n := 5) clsX9.1 mw_1567 mw_1569 mw_73 mw_108 mw_1570 rfl (okmX9_tells) (by decide) (Nat.le_refl _) (by decide) (by decide) dX9_find_82 (sd_if_ne (tgt := 92) (by decide) dX9_find_85 (sd_iconst (v := 0) (by decide) dX9_find_92 (Sd.go)) (sd_iconst (v := 1) (by decide) dX9_find_88 (sd_goto (tgt := 93) (by decide) dX9_find_89 (Sd.go)))))))))))))))) : Sd l E YX9_find (d + 1) 0 0 Q 0 0 64 (bX9_find_64 l E d Q)) ls st h hB
def bX9_find_93 (l : Launch) (E : Ev) (d : Nat) (Q : Option Value → Hp → Prop) : Kt := k_zastore (k_aload 0 (k_getR 9 55 36 (k_iload 3 (k_aload 0 (k_push (.int 0) (k_iload 1 (k_iload 2 (k_aload 0 (k_getR 9 55 3 (k_push (.int 42) (k_push (.int 4) (k_iload 2 (k_imul (k_iadd (k_push (.int 3) (k_iadd (k_iaload (k_iload 1 (k_icmp_ne (k_push (.int 1) (Go l E YX9_find (d + 1) 0 0 Q 0 0 125)) (k_push (.int 0) (Go l E YX9_find (d + 1) 0 0 Q 0 0 125)))))))))))))))))))))
set_option maxRecDepth 100000 in
set_option maxHeartbeats 4000000 in
theorem gX9_find_93 {l : Launch} {E : Ev} {d : Nat} {Q : Option Value → Hp → Prop} {ls : Lv} {st : List Value} {h : Hp} (hB : bX9_find_93 l E d Q ls st h) : Go l E YX9_find (d + 1) 0 0 Q 0 0 93 ls st h :=
  (sd_zastore dX9_find_93 (sd_aload_n (i := 0) rfl dX9_find_94 (sd_getR clsX9 (f := 36) (by decide) (fun _ _ _ => rfl) mw_1214 dX9_find_95 (sd_iload_n (i := 3) rfl dX9_find_98 (sd_aload_n (i := 0) rfl dX9_find_99 (sd_iconst (v := 0) (by decide) dX9_find_100 (sd_iload_n (i := 1) rfl dX9_find_101 (sd_iload_n (i := 2) rfl dX9_find_102 (sd_aload_n (i := 0) rfl dX9_find_103 (sd_getR clsX9 (f := 3) (by decide) (fun _ _ _ => rfl) mw_1181 dX9_find_104 (sd_bipush (v := 42) (by decide) dX9_find_107 (sd_iconst (v := 4) (by decide) dX9_find_109 (sd_iload_n (i := 2) rfl dX9_find_110 (sd_imul dX9_find_111 (sd_iadd dX9_find_112 (sd_iconst (v := 3) (by decide) dX9_find_113 (sd_iadd dX9_find_114 (sd_iaload dX9_find_115 (sd_iload_n (i := 1) rfl dX9_find_116 (sd_icmp_ne (tgt := 124) (by decide) dX9_find_117 (sd_iconst (v := 1) (by decide) dX9_find_124 (Sd.go)) (sd_iconst (v := 0) (by decide) dX9_find_120 (sd_goto (tgt := 125) (by decide) dX9_find_121 (Sd.go)))))))))))))))))))))) : Sd l E YX9_find (d + 1) 0 0 Q 0 0 93 (bX9_find_93 l E d Q)) ls st h hB
def bX9_find_125 (l : Launch) (E : Ev) (d : Nat) (Q : Option Value → Hp → Prop) : Kt := k_push (.int 99) (k_callV l E 9 55 YX9_tells d 0 0 5 (k_iastore (k_iinc 2 1 (Go l E YX9_find (d + 1) 0 0 Q 0 0 14))))
set_option maxRecDepth 100000 in
set_option maxHeartbeats 4000000 in
theorem gX9_find_125 {l : Launch} {E : Ev} {d : Nat} {Q : Option Value → Hp → Prop} {ls : Lv} {st : List Value} {h : Hp} (hB : bX9_find_125 l E d Q ls st h) : Go l E YX9_find (d + 1) 0 0 Q 0 0 125 ls st h :=
  (sd_bipush (v := 99) (by decide) dX9_find_125 (sd_callV (Y' := YX9_tells) (mc' := 0) (ms' := 0) (n := 5) clsX9.1 mw_1567 mw_1569 mw_73 mw_108 mw_1570 rfl (okmX9_tells) (by decide) (Nat.le_refl _) (by decide) (by decide) dX9_find_127 (sd_iastore dX9_find_130 (sd_iinc (i := 2) (v := 1) (by decide) (by decide) dX9_find_131 (sd_goto (tgt := 14) (by decide) dX9_find_134 (Sd.go))))) : Sd l E YX9_find (d + 1) 0 0 Q 0 0 125 (bX9_find_125 l E d Q)) ls st h hB
theorem eX9_find {l : Launch} {E : Ev} {d : Nat} {Q : Option Value → Hp → Prop} {h : Hp} {a0 : Nat} (hk : Go l E YX9_find d 0 0 Q 0 0 0 [some (.ref a0), none, none, none, none] [] h) : GoM l E YX9_find d 0 0 [.ref a0] h Q := GoM.of (by decide +kernel) rfl (by simp [entA, YX9_find]) hk
theorem dX9_of_0 : decode cX9_of 0 = .ok (.aload_n 0, 1) := by decide +kernel
theorem dX9_of_1 : decode cX9_of 1 = .ok (.iconst 0, 1) := by decide +kernel
theorem dX9_of_2 : decode cX9_of 2 = .ok (.putfield 123, 3) := by decide +kernel
theorem dX9_of_5 : decode cX9_of 5 = .ok (.aload_n 0, 1) := by decide +kernel
theorem dX9_of_6 : decode cX9_of 6 = .ok (.iload_n 1, 1) := by decide +kernel
theorem dX9_of_7 : decode cX9_of 7 = .ok (.invokevirtual 155, 3) := by decide +kernel
theorem dX9_of_10 : decode cX9_of 10 = .ok (.ifCond .eq 23, 3) := by decide +kernel
theorem dX9_of_13 : decode cX9_of 13 = .ok (.aload_n 0, 1) := by decide +kernel
theorem dX9_of_14 : decode cX9_of 14 = .ok (.iload_n 2, 1) := by decide +kernel
theorem dX9_of_15 : decode cX9_of 15 = .ok (.invokevirtual 163, 3) := by decide +kernel
theorem dX9_of_18 : decode cX9_of 18 = .ok (.ifCond .eq 15, 3) := by decide +kernel
theorem dX9_of_21 : decode cX9_of 21 = .ok (.iload_n 3, 1) := by decide +kernel
theorem dX9_of_22 : decode cX9_of 22 = .ok (.i2l, 1) := by decide +kernel
theorem dX9_of_23 : decode cX9_of 23 = .ok (.lconst 0, 1) := by decide +kernel
theorem dX9_of_24 : decode cX9_of 24 = .ok (.ldc2_w 349, 3) := by decide +kernel
theorem dX9_of_27 : decode cX9_of 27 = .ok (.invokestatic 133, 3) := by decide +kernel
theorem dX9_of_30 : decode cX9_of 30 = .ok (.ifCond .ne 5, 3) := by decide +kernel
theorem dX9_of_33 : decode cX9_of 33 = .ok (.iconst (-1), 1) := by decide +kernel
theorem dX9_of_34 : decode cX9_of 34 = .ok (.ireturn, 1) := by decide +kernel
theorem dX9_of_35 : decode cX9_of 35 = .ok (.aload_n 0, 1) := by decide +kernel
theorem dX9_of_36 : decode cX9_of 36 = .ok (.invokevirtual 351, 3) := by decide +kernel
theorem dX9_of_39 : decode cX9_of 39 = .ok (.aload_n 0, 1) := by decide +kernel
theorem dX9_of_40 : decode cX9_of 40 = .ok (.invokevirtual 354, 3) := by decide +kernel
theorem dX9_of_43 : decode cX9_of 43 = .ok (.bipush 8, 2) := by decide +kernel
theorem dX9_of_45 : decode cX9_of 45 = .ok (.iload_n 1, 1) := by decide +kernel
theorem dX9_of_46 : decode cX9_of 46 = .ok (.imul, 1) := by decide +kernel
theorem dX9_of_47 : decode cX9_of 47 = .ok (.iload_n 2, 1) := by decide +kernel
theorem dX9_of_48 : decode cX9_of 48 = .ok (.iadd, 1) := by decide +kernel
theorem dX9_of_49 : decode cX9_of 49 = .ok (.istore 4, 2) := by decide +kernel
theorem dX9_of_51 : decode cX9_of 51 = .ok (.iload_n 3, 1) := by decide +kernel
theorem dX9_of_52 : decode cX9_of 52 = .ok (.ifCond .ne 13, 3) := by decide +kernel
theorem dX9_of_55 : decode cX9_of 55 = .ok (.aload_n 0, 1) := by decide +kernel
theorem dX9_of_56 : decode cX9_of 56 = .ok (.getfield 86, 3) := by decide +kernel
theorem dX9_of_59 : decode cX9_of 59 = .ok (.iload 4, 2) := by decide +kernel
theorem dX9_of_61 : decode cX9_of 61 = .ok (.iaload, 1) := by decide +kernel
theorem dX9_of_62 : decode cX9_of 62 = .ok (.goto 51, 3) := by decide +kernel
theorem dX9_of_65 : decode cX9_of 65 = .ok (.iload_n 3, 1) := by decide +kernel
theorem dX9_of_66 : decode cX9_of 66 = .ok (.iconst 1, 1) := by decide +kernel
theorem dX9_of_67 : decode cX9_of 67 = .ok (.if_icmp .ne 21, 3) := by decide +kernel
theorem dX9_of_70 : decode cX9_of 70 = .ok (.aload_n 0, 1) := by decide +kernel
theorem dX9_of_71 : decode cX9_of 71 = .ok (.getfield 89, 3) := by decide +kernel
theorem dX9_of_74 : decode cX9_of 74 = .ok (.iload 4, 2) := by decide +kernel
theorem dX9_of_76 : decode cX9_of 76 = .ok (.baload, 1) := by decide +kernel
theorem dX9_of_77 : decode cX9_of 77 = .ok (.ifCond .eq 7, 3) := by decide +kernel
theorem dX9_of_80 : decode cX9_of 80 = .ok (.iconst 1, 1) := by decide +kernel
theorem dX9_of_81 : decode cX9_of 81 = .ok (.goto 32, 3) := by decide +kernel
theorem dX9_of_84 : decode cX9_of 84 = .ok (.iconst 0, 1) := by decide +kernel
theorem dX9_of_85 : decode cX9_of 85 = .ok (.goto 28, 3) := by decide +kernel
theorem dX9_of_88 : decode cX9_of 88 = .ok (.iload_n 3, 1) := by decide +kernel
theorem dX9_of_89 : decode cX9_of 89 = .ok (.iconst 2, 1) := by decide +kernel
theorem dX9_of_90 : decode cX9_of 90 = .ok (.if_icmp .ne 13, 3) := by decide +kernel
theorem dX9_of_93 : decode cX9_of 93 = .ok (.aload_n 0, 1) := by decide +kernel
theorem dX9_of_94 : decode cX9_of 94 = .ok (.getfield 92, 3) := by decide +kernel
theorem dX9_of_97 : decode cX9_of 97 = .ok (.iload 4, 2) := by decide +kernel
theorem dX9_of_99 : decode cX9_of 99 = .ok (.iaload, 1) := by decide +kernel
theorem dX9_of_100 : decode cX9_of 100 = .ok (.goto 13, 3) := by decide +kernel
theorem dX9_of_103 : decode cX9_of 103 = .ok (.aload_n 0, 1) := by decide +kernel
theorem dX9_of_104 : decode cX9_of 104 = .ok (.iconst 1, 1) := by decide +kernel
theorem dX9_of_105 : decode cX9_of 105 = .ok (.iload_n 1, 1) := by decide +kernel
theorem dX9_of_106 : decode cX9_of 106 = .ok (.iload_n 2, 1) := by decide +kernel
theorem dX9_of_107 : decode cX9_of 107 = .ok (.iconst 0, 1) := by decide +kernel
theorem dX9_of_108 : decode cX9_of 108 = .ok (.bipush 9, 2) := by decide +kernel
theorem dX9_of_110 : decode cX9_of 110 = .ok (.invokevirtual 345, 3) := by decide +kernel
theorem dX9_of_113 : decode cX9_of 113 = .ok (.ireturn, 1) := by decide +kernel
def bX9_of_0 (l : Launch) (E : Ev) (d : Nat) (Q : Option Value → Hp → Prop) : Kt := k_aload 0 (k_push (.int 0) (k_putI 9 55 0 (k_aload 0 (k_iload 1 (k_callV l E 9 55 YX9_isActor d 0 0 1 (k_if_eq (k_push (.int (-1)) (k_iret .int Q)) (k_aload 0 (k_iload 2 (k_callV l E 9 55 YX9_isPart d 0 0 1 (k_if_eq (k_push (.int (-1)) (k_iret .int Q)) (k_iload 3 (k_i2l (k_push (.long 0) (k_push (.long 3) (k_callS l E YX9_in d 0 0 3 (k_if_ne (k_aload 0 (k_callV l E 9 55 YX9_asIs d 0 0 0 (k_aload 0 (k_callV l E 9 55 YX9_find d 0 0 0 (k_push (.int 8) (k_iload 1 (k_imul (k_iload 2 (k_iadd (k_istore 4 (k_iload 3 (k_if_ne (k_iload 3 (k_push (.int 1) (k_icmp_ne (k_iload 3 (k_push (.int 2) (k_icmp_ne (k_aload 0 (k_push (.int 1) (k_iload 1 (k_iload 2 (k_push (.int 0) (k_push (.int 9) (k_callV l E 9 55 YX9_tells d 0 0 5 (k_iret .int Q)))))))) (k_aload 0 (k_getR 9 55 36 (k_iload 4 (k_iaload (k_iret .int Q)))))))) (k_aload 0 (k_getR 9 55 35 (k_iload 4 (k_zaload (k_if_eq (k_push (.int 0) (k_iret .int Q)) (k_push (.int 1) (k_iret .int Q)))))))))) (k_aload 0 (k_getR 9 55 33 (k_iload 4 (k_iaload (k_iret .int Q))))))))))))))))) (k_push (.int (-1)) (k_iret .int Q))))))))))))))))))
set_option maxRecDepth 100000 in
set_option maxHeartbeats 4000000 in
theorem gX9_of_0 {l : Launch} {E : Ev} {d : Nat} {Q : Option Value → Hp → Prop} {ls : Lv} {st : List Value} {h : Hp} (hB : bX9_of_0 l E d Q ls st h) : Go l E YX9_of (d + 1) 0 0 Q 0 0 0 ls st h :=
  (sd_aload_n (i := 0) rfl dX9_of_0 (sd_iconst (v := 0) (by decide) dX9_of_1 (sd_putI clsX9 (f := 0) (by decide) (fun _ _ _ => rfl) rfl (Or.inl rfl) mw_1178 dX9_of_2 (sd_aload_n (i := 0) rfl dX9_of_5 (sd_iload_n (i := 1) rfl dX9_of_6 (sd_callV (Y' := YX9_isActor) (mc' := 0) (ms' := 0) (n := 1) clsX9.1 mw_1381 mw_1383 mw_46 mw_108 mw_1384 rfl (okmX9_isActor) (by decide) (Nat.le_refl _) (by decide) (by decide) dX9_of_7 (sd_if_eq (tgt := 33) (by decide) dX9_of_10 (sd_iconst (v := (-1)) (by decide) dX9_of_33 (sd_iret (ty := .int) rfl (by decide) (by decide) dX9_of_34)) (sd_aload_n (i := 0) rfl dX9_of_13 (sd_iload_n (i := 2) rfl dX9_of_14 (sd_callV (Y' := YX9_isPart) (mc' := 0) (ms' := 0) (n := 1) clsX9.1 mw_1397 mw_1399 mw_49 mw_108 mw_1400 rfl (okmX9_isPart) (by decide) (Nat.le_refl _) (by decide) (by decide) dX9_of_15 (sd_if_eq (tgt := 33) (by decide) dX9_of_18 (sd_iconst (v := (-1)) (by decide) dX9_of_33 (sd_iret (ty := .int) rfl (by decide) (by decide) dX9_of_34)) (sd_iload_n (i := 3) rfl dX9_of_21 (sd_i2l dX9_of_22 (sd_lconst (v := 0) (by decide) dX9_of_23 (sd_ldc2 (v := 3) mw_1558 dX9_of_24 (sd_callS (Y' := YX9_in) (mc' := 0) (ms' := 0) (n := 3) mw_1348 mw_1349 mw_108 mw_1350 (okmX9_in) (by decide) (Nat.le_refl _) (by decide) (by decide) dX9_of_27 (sd_if_ne (tgt := 35) (by decide) dX9_of_30 (sd_aload_n (i := 0) rfl dX9_of_35 (sd_callV (Y' := YX9_asIs) (mc' := 0) (ms' := 0) (n := 0) clsX9.1 mw_1559 mw_1561 mw_71 mw_108 mw_1562 rfl (okmX9_asIs) (by decide) (Nat.le_refl _) (by decide) (by decide) dX9_of_36 (sd_aload_n (i := 0) rfl dX9_of_39 (sd_callV (Y' := YX9_find) (mc' := 0) (ms' := 0) (n := 0) clsX9.1 mw_1563 mw_1565 mw_72 mw_108 mw_1566 rfl (okmX9_find) (by decide) (Nat.le_refl _) (by decide) (by decide) dX9_of_40 (sd_bipush (v := 8) (by decide) dX9_of_43 (sd_iload_n (i := 1) rfl dX9_of_45 (sd_imul dX9_of_46 (sd_iload_n (i := 2) rfl dX9_of_47 (sd_iadd dX9_of_48 (sd_istore (i := 4) (by decide) dX9_of_49 (sd_iload_n (i := 3) rfl dX9_of_51 (sd_if_ne (tgt := 65) (by decide) dX9_of_52 (sd_iload_n (i := 3) rfl dX9_of_65 (sd_iconst (v := 1) (by decide) dX9_of_66 (sd_icmp_ne (tgt := 88) (by decide) dX9_of_67 (sd_iload_n (i := 3) rfl dX9_of_88 (sd_iconst (v := 2) (by decide) dX9_of_89 (sd_icmp_ne (tgt := 103) (by decide) dX9_of_90 (sd_aload_n (i := 0) rfl dX9_of_103 (sd_iconst (v := 1) (by decide) dX9_of_104 (sd_iload_n (i := 1) rfl dX9_of_105 (sd_iload_n (i := 2) rfl dX9_of_106 (sd_iconst (v := 0) (by decide) dX9_of_107 (sd_bipush (v := 9) (by decide) dX9_of_108 (sd_callV (Y' := YX9_tells) (mc' := 0) (ms' := 0) (n := 5) clsX9.1 mw_1567 mw_1569 mw_73 mw_108 mw_1570 rfl (okmX9_tells) (by decide) (Nat.le_refl _) (by decide) (by decide) dX9_of_110 (sd_iret (ty := .int) rfl (by decide) (by decide) dX9_of_113)))))))) (sd_aload_n (i := 0) rfl dX9_of_93 (sd_getR clsX9 (f := 36) (by decide) (fun _ _ _ => rfl) mw_1214 dX9_of_94 (sd_iload (n := 4) dX9_of_97 (sd_iaload dX9_of_99 (sd_goto (tgt := 113) (by decide) dX9_of_100 (sd_iret (ty := .int) rfl (by decide) (by decide) dX9_of_113))))))))) (sd_aload_n (i := 0) rfl dX9_of_70 (sd_getR clsX9 (f := 35) (by decide) (fun _ _ _ => rfl) mw_1213 dX9_of_71 (sd_iload (n := 4) dX9_of_74 (sd_zaload dX9_of_76 (sd_if_eq (tgt := 84) (by decide) dX9_of_77 (sd_iconst (v := 0) (by decide) dX9_of_84 (sd_goto (tgt := 113) (by decide) dX9_of_85 (sd_iret (ty := .int) rfl (by decide) (by decide) dX9_of_113))) (sd_iconst (v := 1) (by decide) dX9_of_80 (sd_goto (tgt := 113) (by decide) dX9_of_81 (sd_iret (ty := .int) rfl (by decide) (by decide) dX9_of_113))))))))))) (sd_aload_n (i := 0) rfl dX9_of_55 (sd_getR clsX9 (f := 33) (by decide) (fun _ _ _ => rfl) mw_1211 dX9_of_56 (sd_iload (n := 4) dX9_of_59 (sd_iaload dX9_of_61 (sd_goto (tgt := 113) (by decide) dX9_of_62 (sd_iret (ty := .int) rfl (by decide) (by decide) dX9_of_113)))))))))))))))))) (sd_iconst (v := (-1)) (by decide) dX9_of_33 (sd_iret (ty := .int) rfl (by decide) (by decide) dX9_of_34)))))))))))))))))) : Sd l E YX9_of (d + 1) 0 0 Q 0 0 0 (bX9_of_0 l E d Q)) ls st h hB
theorem eX9_of {l : Launch} {E : Ev} {d : Nat} {Q : Option Value → Hp → Prop} {h : Hp} {a0 : Nat} {x1 : Int32} {x2 : Int32} {x3 : Int32} (hk : Go l E YX9_of d 0 0 Q 0 0 0 [some (.ref a0), some (.int x1), some (.int x2), some (.int x3), none] [] h) : GoM l E YX9_of d 0 0 [.ref a0, .int x1, .int x2, .int x3] h Q := GoM.of (by decide +kernel) rfl (by simp [entA, YX9_of]) hk
theorem dX9_may_0 : decode cX9_may 0 = .ok (.aload_n 0, 1) := by decide +kernel
theorem dX9_may_1 : decode cX9_may 1 = .ok (.getfield 89, 3) := by decide +kernel
theorem dX9_may_4 : decode cX9_may 4 = .ok (.bipush 8, 2) := by decide +kernel
theorem dX9_may_6 : decode cX9_may 6 = .ok (.iload_n 1, 1) := by decide +kernel
theorem dX9_may_7 : decode cX9_may 7 = .ok (.imul, 1) := by decide +kernel
theorem dX9_may_8 : decode cX9_may 8 = .ok (.iload_n 2, 1) := by decide +kernel
theorem dX9_may_9 : decode cX9_may 9 = .ok (.iadd, 1) := by decide +kernel
theorem dX9_may_10 : decode cX9_may 10 = .ok (.baload, 1) := by decide +kernel
theorem dX9_may_11 : decode cX9_may 11 = .ok (.ifCond .eq 27, 3) := by decide +kernel
theorem dX9_may_14 : decode cX9_may 14 = .ok (.aload_n 0, 1) := by decide +kernel
theorem dX9_may_15 : decode cX9_may 15 = .ok (.getfield 104, 3) := by decide +kernel
theorem dX9_may_18 : decode cX9_may 18 = .ok (.iload_n 2, 1) := by decide +kernel
theorem dX9_may_19 : decode cX9_may 19 = .ok (.iaload, 1) := by decide +kernel
theorem dX9_may_20 : decode cX9_may 20 = .ok (.iconst (-1), 1) := by decide +kernel
theorem dX9_may_21 : decode cX9_may 21 = .ok (.if_icmp .eq 13, 3) := by decide +kernel
theorem dX9_may_24 : decode cX9_may 24 = .ok (.aload_n 0, 1) := by decide +kernel
theorem dX9_may_25 : decode cX9_may 25 = .ok (.getfield 104, 3) := by decide +kernel
theorem dX9_may_28 : decode cX9_may 28 = .ok (.iload_n 2, 1) := by decide +kernel
theorem dX9_may_29 : decode cX9_may 29 = .ok (.iaload, 1) := by decide +kernel
theorem dX9_may_30 : decode cX9_may 30 = .ok (.iload_n 1, 1) := by decide +kernel
theorem dX9_may_31 : decode cX9_may 31 = .ok (.if_icmp .ne 7, 3) := by decide +kernel
theorem dX9_may_34 : decode cX9_may 34 = .ok (.iconst 1, 1) := by decide +kernel
theorem dX9_may_35 : decode cX9_may 35 = .ok (.goto 4, 3) := by decide +kernel
theorem dX9_may_38 : decode cX9_may 38 = .ok (.iconst 0, 1) := by decide +kernel
theorem dX9_may_39 : decode cX9_may 39 = .ok (.ireturn, 1) := by decide +kernel
def bX9_may_0 (l : Launch) (E : Ev) (d : Nat) (Q : Option Value → Hp → Prop) : Kt := k_aload 0 (k_getR 9 55 35 (k_push (.int 8) (k_iload 1 (k_imul (k_iload 2 (k_iadd (k_zaload (k_if_eq (k_push (.int 0) (k_iret .boolean Q)) (k_aload 0 (k_getR 9 55 40 (k_iload 2 (k_iaload (k_push (.int (-1)) (k_icmp_eq (k_push (.int 1) (k_iret .boolean Q)) (k_aload 0 (k_getR 9 55 40 (k_iload 2 (k_iaload (k_iload 1 (k_icmp_ne (k_push (.int 0) (k_iret .boolean Q)) (k_push (.int 1) (k_iret .boolean Q))))))))))))))))))))))
set_option maxRecDepth 100000 in
set_option maxHeartbeats 4000000 in
theorem gX9_may_0 {l : Launch} {E : Ev} {d : Nat} {Q : Option Value → Hp → Prop} {ls : Lv} {st : List Value} {h : Hp} (hB : bX9_may_0 l E d Q ls st h) : Go l E YX9_may (d + 1) 0 0 Q 0 0 0 ls st h :=
  (sd_aload_n (i := 0) rfl dX9_may_0 (sd_getR clsX9 (f := 35) (by decide) (fun _ _ _ => rfl) mw_1213 dX9_may_1 (sd_bipush (v := 8) (by decide) dX9_may_4 (sd_iload_n (i := 1) rfl dX9_may_6 (sd_imul dX9_may_7 (sd_iload_n (i := 2) rfl dX9_may_8 (sd_iadd dX9_may_9 (sd_zaload dX9_may_10 (sd_if_eq (tgt := 38) (by decide) dX9_may_11 (sd_iconst (v := 0) (by decide) dX9_may_38 (sd_iret (ty := .boolean) rfl (by decide) (by decide) dX9_may_39)) (sd_aload_n (i := 0) rfl dX9_may_14 (sd_getR clsX9 (f := 40) (by decide) (fun _ _ _ => rfl) mw_1218 dX9_may_15 (sd_iload_n (i := 2) rfl dX9_may_18 (sd_iaload dX9_may_19 (sd_iconst (v := (-1)) (by decide) dX9_may_20 (sd_icmp_eq (tgt := 34) (by decide) dX9_may_21 (sd_iconst (v := 1) (by decide) dX9_may_34 (sd_goto (tgt := 39) (by decide) dX9_may_35 (sd_iret (ty := .boolean) rfl (by decide) (by decide) dX9_may_39))) (sd_aload_n (i := 0) rfl dX9_may_24 (sd_getR clsX9 (f := 40) (by decide) (fun _ _ _ => rfl) mw_1218 dX9_may_25 (sd_iload_n (i := 2) rfl dX9_may_28 (sd_iaload dX9_may_29 (sd_iload_n (i := 1) rfl dX9_may_30 (sd_icmp_ne (tgt := 38) (by decide) dX9_may_31 (sd_iconst (v := 0) (by decide) dX9_may_38 (sd_iret (ty := .boolean) rfl (by decide) (by decide) dX9_may_39)) (sd_iconst (v := 1) (by decide) dX9_may_34 (sd_goto (tgt := 39) (by decide) dX9_may_35 (sd_iret (ty := .boolean) rfl (by decide) (by decide) dX9_may_39))))))))))))))))))))))) : Sd l E YX9_may (d + 1) 0 0 Q 0 0 0 (bX9_may_0 l E d Q)) ls st h hB
theorem eX9_may {l : Launch} {E : Ev} {d : Nat} {Q : Option Value → Hp → Prop} {h : Hp} {a0 : Nat} {x1 : Int32} {x2 : Int32} (hk : Go l E YX9_may d 0 0 Q 0 0 0 [some (.ref a0), some (.int x1), some (.int x2)] [] h) : GoM l E YX9_may d 0 0 [.ref a0, .int x1, .int x2] h Q := GoM.of (by decide +kernel) rfl (by simp [entA, YX9_may]) hk
