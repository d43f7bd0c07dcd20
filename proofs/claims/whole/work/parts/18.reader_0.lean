theorem dX5_init_0 : decode cX5_init 0 = .ok (.aload_n 0, 1) := by decide +kernel
theorem dX5_init_1 : decode cX5_init 1 = .ok (.invokespecial 3, 3) := by decide +kernel
theorem dX5_init_4 : decode cX5_init 4 = .ok (.aload_n 0, 1) := by decide +kernel
theorem dX5_init_5 : decode cX5_init 5 = .ok (.sipush 401, 3) := by decide +kernel
theorem dX5_init_8 : decode cX5_init 8 = .ok (.newarray .int, 2) := by decide +kernel
theorem dX5_init_10 : decode cX5_init 10 = .ok (.putfield 9, 3) := by decide +kernel
theorem dX5_init_13 : decode cX5_init 13 = .ok (.aload_n 0, 1) := by decide +kernel
theorem dX5_init_14 : decode cX5_init 14 = .ok (.sipush 401, 3) := by decide +kernel
theorem dX5_init_17 : decode cX5_init 17 = .ok (.newarray .int, 2) := by decide +kernel
theorem dX5_init_19 : decode cX5_init 19 = .ok (.putfield 15, 3) := by decide +kernel
theorem dX5_init_22 : decode cX5_init 22 = .ok (.aload_n 0, 1) := by decide +kernel
theorem dX5_init_23 : decode cX5_init 23 = .ok (.sipush 401, 3) := by decide +kernel
theorem dX5_init_26 : decode cX5_init 26 = .ok (.newarray .int, 2) := by decide +kernel
theorem dX5_init_28 : decode cX5_init 28 = .ok (.putfield 18, 3) := by decide +kernel
theorem dX5_init_31 : decode cX5_init 31 = .ok (.aload_n 0, 1) := by decide +kernel
theorem dX5_init_32 : decode cX5_init 32 = .ok (.sipush 400, 3) := by decide +kernel
theorem dX5_init_35 : decode cX5_init 35 = .ok (.newarray .int, 2) := by decide +kernel
theorem dX5_init_37 : decode cX5_init 37 = .ok (.putfield 21, 3) := by decide +kernel
theorem dX5_init_40 : decode cX5_init 40 = .ok (.aload_n 0, 1) := by decide +kernel
theorem dX5_init_41 : decode cX5_init 41 = .ok (.bipush 12, 2) := by decide +kernel
theorem dX5_init_43 : decode cX5_init 43 = .ok (.newarray .int, 2) := by decide +kernel
theorem dX5_init_45 : decode cX5_init 45 = .ok (.putfield 24, 3) := by decide +kernel
theorem dX5_init_48 : decode cX5_init 48 = .ok (.aload_n 0, 1) := by decide +kernel
theorem dX5_init_49 : decode cX5_init 49 = .ok (.bipush 25, 2) := by decide +kernel
theorem dX5_init_51 : decode cX5_init 51 = .ok (.newarray .int, 2) := by decide +kernel
theorem dX5_init_53 : decode cX5_init 53 = .ok (.putfield 27, 3) := by decide +kernel
theorem dX5_init_56 : decode cX5_init 56 = .ok (.aload_n 0, 1) := by decide +kernel
theorem dX5_init_57 : decode cX5_init 57 = .ok (.iconst (-1), 1) := by decide +kernel
theorem dX5_init_58 : decode cX5_init 58 = .ok (.putfield 30, 3) := by decide +kernel
theorem dX5_init_61 : decode cX5_init 61 = .ok (.return_, 1) := by decide +kernel
def bX5_init_0 (l : Launch) (E : Ev) (d : Nat) (Q : Option Value → Hp → Prop) : Kt := k_aload 0 (k_objInit (k_aload 0 (k_push (.int 401) (k_newarr 1 401 (k_putR 5 12 0 (k_aload 0 (k_push (.int 401) (k_newarr 1 401 (k_putR 5 12 1 (k_aload 0 (k_push (.int 401) (k_newarr 1 401 (k_putR 5 12 2 (k_aload 0 (k_push (.int 400) (k_newarr 1 400 (k_putR 5 12 5 (k_aload 0 (k_push (.int 12) (k_newarr 1 12 (k_putR 5 12 7 (k_aload 0 (k_push (.int 25) (k_newarr 1 25 (k_putR 5 12 8 (k_aload 0 (k_push (.int (-1)) (k_putI 5 12 11 (k_vret Q)))))))))))))))))))))))))))))
set_option maxRecDepth 100000 in
set_option maxHeartbeats 4000000 in
theorem gX5_init_0 {l : Launch} {E : Ev} {d : Nat} {Q : Option Value → Hp → Prop} {ls : Lv} {st : List Value} {h : Hp} (hB : bX5_init_0 l E d Q ls st h) : Go l E YX5_init (d + 1) 6 1640 Q 0 0 0 ls st h :=
  (sd_aload_n (i := 0) rfl dX5_init_0 (sd_objInit mw_221 mw_125 mw_126 (by omega) dX5_init_1 (sd_aload_n (i := 0) rfl dX5_init_4 (sd_sipush (v := 401) (by decide) dX5_init_5 (sd_newarr (at' := .int) (ki := 1) (B := 401) (by decide) mw_214 (by decide) (by decide) (by decide) dX5_init_8 (sd_putR clsX5 (f := 0) (by decide) (fun _ _ _ => rfl) rfl (Or.inr ⟨rfl, rfl, rfl⟩) mw_222 dX5_init_10 (sd_aload_n (i := 0) rfl dX5_init_13 (sd_sipush (v := 401) (by decide) dX5_init_14 (sd_newarr (at' := .int) (ki := 1) (B := 401) (by decide) mw_214 (by decide) (by decide) (by decide) dX5_init_17 (sd_putR clsX5 (f := 1) (by decide) (fun _ _ _ => rfl) rfl (Or.inr ⟨rfl, rfl, rfl⟩) mw_223 dX5_init_19 (sd_aload_n (i := 0) rfl dX5_init_22 (sd_sipush (v := 401) (by decide) dX5_init_23 (sd_newarr (at' := .int) (ki := 1) (B := 401) (by decide) mw_214 (by decide) (by decide) (by decide) dX5_init_26 (sd_putR clsX5 (f := 2) (by decide) (fun _ _ _ => rfl) rfl (Or.inr ⟨rfl, rfl, rfl⟩) mw_224 dX5_init_28 (sd_aload_n (i := 0) rfl dX5_init_31 (sd_sipush (v := 400) (by decide) dX5_init_32 (sd_newarr (at' := .int) (ki := 1) (B := 400) (by decide) mw_214 (by decide) (by decide) (by decide) dX5_init_35 (sd_putR clsX5 (f := 5) (by decide) (fun _ _ _ => rfl) rfl (Or.inr ⟨rfl, rfl, rfl⟩) mw_227 dX5_init_37 (sd_aload_n (i := 0) rfl dX5_init_40 (sd_bipush (v := 12) (by decide) dX5_init_41 (sd_newarr (at' := .int) (ki := 1) (B := 12) (by decide) mw_214 (by decide) (by decide) (by decide) dX5_init_43 (sd_putR clsX5 (f := 7) (by decide) (fun _ _ _ => rfl) rfl (Or.inr ⟨rfl, rfl, rfl⟩) mw_229 dX5_init_45 (sd_aload_n (i := 0) rfl dX5_init_48 (sd_bipush (v := 25) (by decide) dX5_init_49 (sd_newarr (at' := .int) (ki := 1) (B := 25) (by decide) mw_214 (by decide) (by decide) (by decide) dX5_init_51 (sd_putR clsX5 (f := 8) (by decide) (fun _ _ _ => rfl) rfl (Or.inr ⟨rfl, rfl, rfl⟩) mw_230 dX5_init_53 (sd_aload_n (i := 0) rfl dX5_init_56 (sd_iconst (v := (-1)) (by decide) dX5_init_57 (sd_putI clsX5 (f := 11) (by decide) (fun _ _ _ => rfl) rfl (Or.inl rfl) mw_233 dX5_init_58 (sd_vret rfl (by decide) (by decide) dX5_init_61))))))))))))))))))))))))))))) : Sd l E YX5_init (d + 1) 6 1640 Q 0 0 0 (bX5_init_0 l E d Q)) ls st h hB
theorem eX5_init {l : Launch} {E : Ev} {d : Nat} {Q : Option Value → Hp → Prop} {h : Hp} {a0 : Nat} (hk : Go l E YX5_init d 6 1640 Q 0 0 0 [some (.ref a0)] [] h) : GoM l E YX5_init d 6 1640 [.ref a0] h Q := GoM.of (by decide +kernel) rfl (by simp [entA, YX5_init]) hk
theorem dX5_read_0 : decode cX5_read 0 = .ok (.aload_n 0, 1) := by decide +kernel
theorem dX5_read_1 : decode cX5_read 1 = .ok (.aload_n 1, 1) := by decide +kernel
theorem dX5_read_2 : decode cX5_read 2 = .ok (.iload_n 2, 1) := by decide +kernel
theorem dX5_read_3 : decode cX5_read 3 = .ok (.invokevirtual 34, 3) := by decide +kernel
theorem dX5_read_6 : decode cX5_read 6 = .ok (.aload_n 0, 1) := by decide +kernel
theorem dX5_read_7 : decode cX5_read 7 = .ok (.iconst 0, 1) := by decide +kernel
theorem dX5_read_8 : decode cX5_read 8 = .ok (.putfield 38, 3) := by decide +kernel
theorem dX5_read_11 : decode cX5_read 11 = .ok (.aload_n 0, 1) := by decide +kernel
theorem dX5_read_12 : decode cX5_read 12 = .ok (.iconst 0, 1) := by decide +kernel
theorem dX5_read_13 : decode cX5_read 13 = .ok (.putfield 41, 3) := by decide +kernel
theorem dX5_read_16 : decode cX5_read 16 = .ok (.aload_n 0, 1) := by decide +kernel
theorem dX5_read_17 : decode cX5_read 17 = .ok (.iconst 0, 1) := by decide +kernel
theorem dX5_read_18 : decode cX5_read 18 = .ok (.putfield 44, 3) := by decide +kernel
theorem dX5_read_21 : decode cX5_read 21 = .ok (.aload_n 0, 1) := by decide +kernel
theorem dX5_read_22 : decode cX5_read 22 = .ok (.iconst 0, 1) := by decide +kernel
theorem dX5_read_23 : decode cX5_read 23 = .ok (.putfield 47, 3) := by decide +kernel
theorem dX5_read_26 : decode cX5_read 26 = .ok (.iconst 1, 1) := by decide +kernel
theorem dX5_read_27 : decode cX5_read 27 = .ok (.istore_n 3, 1) := by decide +kernel
theorem dX5_read_28 : decode cX5_read 28 = .ok (.iload_n 3, 1) := by decide +kernel
theorem dX5_read_29 : decode cX5_read 29 = .ok (.ifCond .eq 48, 3) := by decide +kernel
theorem dX5_read_32 : decode cX5_read 32 = .ok (.aload_n 0, 1) := by decide +kernel
theorem dX5_read_33 : decode cX5_read 33 = .ok (.getfield 44, 3) := by decide +kernel
theorem dX5_read_36 : decode cX5_read 36 = .ok (.bipush 12, 2) := by decide +kernel
theorem dX5_read_38 : decode cX5_read 38 = .ok (.if_icmp .ge 39, 3) := by decide +kernel
theorem dX5_read_41 : decode cX5_read 41 = .ok (.aload_n 0, 1) := by decide +kernel
theorem dX5_read_42 : decode cX5_read 42 = .ok (.invokevirtual 50, 3) := by decide +kernel
theorem dX5_read_45 : decode cX5_read 45 = .ok (.ifCond .eq 32, 3) := by decide +kernel
theorem dX5_read_48 : decode cX5_read 48 = .ok (.aload_n 0, 1) := by decide +kernel
theorem dX5_read_49 : decode cX5_read 49 = .ok (.dup, 1) := by decide +kernel
theorem dX5_read_50 : decode cX5_read 50 = .ok (.getfield 44, 3) := by decide +kernel
theorem dX5_read_53 : decode cX5_read 53 = .ok (.iconst 1, 1) := by decide +kernel
theorem dX5_read_54 : decode cX5_read 54 = .ok (.iadd, 1) := by decide +kernel
theorem dX5_read_55 : decode cX5_read 55 = .ok (.putfield 44, 3) := by decide +kernel
theorem dX5_read_58 : decode cX5_read 58 = .ok (.aload_n 0, 1) := by decide +kernel
theorem dX5_read_59 : decode cX5_read 59 = .ok (.sipush 159, 3) := by decide +kernel
theorem dX5_read_62 : decode cX5_read 62 = .ok (.invokevirtual 54, 3) := by decide +kernel
theorem dX5_read_65 : decode cX5_read 65 = .ok (.istore_n 3, 1) := by decide +kernel
theorem dX5_read_66 : decode cX5_read 66 = .ok (.iload_n 3, 1) := by decide +kernel
theorem dX5_read_67 : decode cX5_read 67 = .ok (.ifCond .eq (-39), 3) := by decide +kernel
theorem dX5_read_70 : decode cX5_read 70 = .ok (.aload_n 0, 1) := by decide +kernel
theorem dX5_read_71 : decode cX5_read 71 = .ok (.invokevirtual 58, 3) := by decide +kernel
theorem dX5_read_74 : decode cX5_read 74 = .ok (.goto (-46), 3) := by decide +kernel
theorem dX5_read_77 : decode cX5_read 77 = .ok (.iload_n 3, 1) := by decide +kernel
theorem dX5_read_78 : decode cX5_read 78 = .ok (.ifCond .ne 12, 3) := by decide +kernel
theorem dX5_read_81 : decode cX5_read 81 = .ok (.aload_n 0, 1) := by decide +kernel
theorem dX5_read_82 : decode cX5_read 82 = .ok (.bipush 20, 2) := by decide +kernel
theorem dX5_read_84 : decode cX5_read 84 = .ok (.invokevirtual 54, 3) := by decide +kernel
theorem dX5_read_87 : decode cX5_read 87 = .ok (.ifCond .ne 18, 3) := by decide +kernel
theorem dX5_read_90 : decode cX5_read 90 = .ok (.aload_n 0, 1) := by decide +kernel
theorem dX5_read_91 : decode cX5_read 91 = .ok (.aload_n 0, 1) := by decide +kernel
theorem dX5_read_92 : decode cX5_read 92 = .ok (.getfield 18, 3) := by decide +kernel
theorem dX5_read_95 : decode cX5_read 95 = .ok (.aload_n 0, 1) := by decide +kernel
theorem dX5_read_96 : decode cX5_read 96 = .ok (.getfield 38, 3) := by decide +kernel
theorem dX5_read_99 : decode cX5_read 99 = .ok (.iaload, 1) := by decide +kernel
theorem dX5_read_100 : decode cX5_read 100 = .ok (.putfield 30, 3) := by decide +kernel
theorem dX5_read_103 : decode cX5_read 103 = .ok (.aconst_null, 1) := by decide +kernel
theorem dX5_read_104 : decode cX5_read 104 = .ok (.areturn, 1) := by decide +kernel
theorem dX5_read_105 : decode cX5_read 105 = .ok (.aload_n 0, 1) := by decide +kernel
theorem dX5_read_106 : decode cX5_read 106 = .ok (.iconst (-1), 1) := by decide +kernel
theorem dX5_read_107 : decode cX5_read 107 = .ok (.putfield 30, 3) := by decide +kernel
theorem dX5_read_110 : decode cX5_read 110 = .ok (.aload_n 0, 1) := by decide +kernel
theorem dX5_read_111 : decode cX5_read 111 = .ok (.getfield 27, 3) := by decide +kernel
theorem dX5_read_114 : decode cX5_read 114 = .ok (.aload_n 0, 1) := by decide +kernel
theorem dX5_read_115 : decode cX5_read 115 = .ok (.getfield 44, 3) := by decide +kernel
theorem dX5_read_118 : decode cX5_read 118 = .ok (.iconst 2, 1) := by decide +kernel
theorem dX5_read_119 : decode cX5_read 119 = .ok (.imul, 1) := by decide +kernel
theorem dX5_read_120 : decode cX5_read 120 = .ok (.aload_n 0, 1) := by decide +kernel
theorem dX5_read_121 : decode cX5_read 121 = .ok (.getfield 41, 3) := by decide +kernel
theorem dX5_read_124 : decode cX5_read 124 = .ok (.iastore, 1) := by decide +kernel
theorem dX5_read_125 : decode cX5_read 125 = .ok (.new 61, 3) := by decide +kernel
theorem dX5_read_128 : decode cX5_read 128 = .ok (.dup, 1) := by decide +kernel
theorem dX5_read_129 : decode cX5_read 129 = .ok (.aload_n 0, 1) := by decide +kernel
theorem dX5_read_130 : decode cX5_read 130 = .ok (.getfield 24, 3) := by decide +kernel
theorem dX5_read_133 : decode cX5_read 133 = .ok (.aload_n 0, 1) := by decide +kernel
theorem dX5_read_134 : decode cX5_read 134 = .ok (.getfield 44, 3) := by decide +kernel
theorem dX5_read_137 : decode cX5_read 137 = .ok (.invokestatic 63, 3) := by decide +kernel
theorem dX5_read_140 : decode cX5_read 140 = .ok (.aload_n 0, 1) := by decide +kernel
theorem dX5_read_141 : decode cX5_read 141 = .ok (.getfield 27, 3) := by decide +kernel
theorem dX5_read_144 : decode cX5_read 144 = .ok (.aload_n 0, 1) := by decide +kernel
theorem dX5_read_145 : decode cX5_read 145 = .ok (.getfield 44, 3) := by decide +kernel
theorem dX5_read_148 : decode cX5_read 148 = .ok (.iconst 2, 1) := by decide +kernel
theorem dX5_read_149 : decode cX5_read 149 = .ok (.imul, 1) := by decide +kernel
theorem dX5_read_150 : decode cX5_read 150 = .ok (.iconst 1, 1) := by decide +kernel
theorem dX5_read_151 : decode cX5_read 151 = .ok (.iadd, 1) := by decide +kernel
theorem dX5_read_152 : decode cX5_read 152 = .ok (.invokestatic 63, 3) := by decide +kernel
theorem dX5_read_155 : decode cX5_read 155 = .ok (.aload_n 0, 1) := by decide +kernel
theorem dX5_read_156 : decode cX5_read 156 = .ok (.getfield 21, 3) := by decide +kernel
theorem dX5_read_159 : decode cX5_read 159 = .ok (.aload_n 0, 1) := by decide +kernel
theorem dX5_read_160 : decode cX5_read 160 = .ok (.getfield 41, 3) := by decide +kernel
theorem dX5_read_163 : decode cX5_read 163 = .ok (.invokestatic 63, 3) := by decide +kernel
theorem dX5_read_166 : decode cX5_read 166 = .ok (.invokespecial 69, 3) := by decide +kernel
theorem dX5_read_169 : decode cX5_read 169 = .ok (.areturn, 1) := by decide +kernel
def bX5_read_0 (l : Launch) (E : Ev) (d : Nat) (Q : Option Value → Hp → Prop) : Kt := k_aload 0 (k_aload 1 (k_iload 2 (k_callV l E 5 12 YX5_cut d 0 0 2 (k_aload 0 (k_push (.int 0) (k_putI 5 12 4 (k_aload 0 (k_push (.int 0) (k_putI 5 12 6 (k_aload 0 (k_push (.int 0) (k_putI 5 12 9 (k_aload 0 (k_push (.int 0) (k_putI 5 12 10 (k_push (.int 1) (k_istore 3 (Go l E YX5_read (d + 1) 4 1203 Q 0 0 28))))))))))))))))))
set_option maxRecDepth 100000 in
set_option maxHeartbeats 4000000 in
theorem gX5_read_0 {l : Launch} {E : Ev} {d : Nat} {Q : Option Value → Hp → Prop} {ls : Lv} {st : List Value} {h : Hp} (hB : bX5_read_0 l E d Q ls st h) : Go l E YX5_read (d + 1) 4 1203 Q 0 0 0 ls st h :=
  (sd_aload_n (i := 0) rfl dX5_read_0 (sd_aload_n (i := 1) rfl dX5_read_1 (sd_iload_n (i := 2) rfl dX5_read_2 (sd_callV (Y' := YX5_cut) (mc' := 0) (ms' := 0) (n := 2) clsX5.1 mw_635 mw_637 mw_4 mw_102 mw_638 rfl (okmX5_cut) (by decide) (Nat.le_refl _) (by decide) (by decide) dX5_read_3 (sd_aload_n (i := 0) rfl dX5_read_6 (sd_iconst (v := 0) (by decide) dX5_read_7 (sd_putI clsX5 (f := 4) (by decide) (fun _ _ _ => rfl) rfl (Or.inl rfl) mw_226 dX5_read_8 (sd_aload_n (i := 0) rfl dX5_read_11 (sd_iconst (v := 0) (by decide) dX5_read_12 (sd_putI clsX5 (f := 6) (by decide) (fun _ _ _ => rfl) rfl (Or.inl rfl) mw_228 dX5_read_13 (sd_aload_n (i := 0) rfl dX5_read_16 (sd_iconst (v := 0) (by decide) dX5_read_17 (sd_putI clsX5 (f := 9) (by decide) (fun _ _ _ => rfl) rfl (Or.inl rfl) mw_231 dX5_read_18 (sd_aload_n (i := 0) rfl dX5_read_21 (sd_iconst (v := 0) (by decide) dX5_read_22 (sd_putI clsX5 (f := 10) (by decide) (fun _ _ _ => rfl) rfl (Or.inl rfl) mw_232 dX5_read_23 (sd_iconst (v := 1) (by decide) dX5_read_26 (sd_istore_n (i := 3) rfl (by decide) dX5_read_27 (Sd.go)))))))))))))))))) : Sd l E YX5_read (d + 1) 4 1203 Q 0 0 0 (bX5_read_0 l E d Q)) ls st h hB
def bX5_read_28 (l : Launch) (E : Ev) (d : Nat) (Q : Option Value → Hp → Prop) : Kt := k_iload 3 (k_if_eq (Go l E YX5_read (d + 1) 4 1203 Q 0 0 77) (k_aload 0 (k_getI 5 12 9 (k_push (.int 12) (k_icmp_ge (Go l E YX5_read (d + 1) 4 1203 Q 0 0 77) (k_aload 0 (k_callV l E 5 12 YX5_readClause d 0 0 0 (k_if_eq (Go l E YX5_read (d + 1) 4 1203 Q 0 0 77) (k_aload 0 (k_dup (k_getI 5 12 9 (k_push (.int 1) (k_iadd (k_putI 5 12 9 (k_aload 0 (k_push (.int 159) (k_callV l E 5 12 YX5_sees d 0 0 1 (k_istore 3 (k_iload 3 (k_if_eq (Go l E YX5_read (d + 1) 4 1203 Q 0 0 28) (k_aload 0 (k_callV l E 5 12 YX5_take d 0 0 0 (Go l E YX5_read (d + 1) 4 1203 Q 0 0 28)))))))))))))))))))))))
set_option maxRecDepth 100000 in
set_option maxHeartbeats 4000000 in
theorem gX5_read_28 {l : Launch} {E : Ev} {d : Nat} {Q : Option Value → Hp → Prop} {ls : Lv} {st : List Value} {h : Hp} (hB : bX5_read_28 l E d Q ls st h) : Go l E YX5_read (d + 1) 4 1203 Q 0 0 28 ls st h :=
  (sd_iload_n (i := 3) rfl dX5_read_28 (sd_if_eq (tgt := 77) (by decide) dX5_read_29 (Sd.go) (sd_aload_n (i := 0) rfl dX5_read_32 (sd_getI clsX5 (f := 9) (by decide) (fun _ _ _ => rfl) mw_231 dX5_read_33 (sd_bipush (v := 12) (by decide) dX5_read_36 (sd_icmp_ge (tgt := 77) (by decide) dX5_read_38 (Sd.go) (sd_aload_n (i := 0) rfl dX5_read_41 (sd_callV (Y' := YX5_readClause) (mc' := 0) (ms' := 0) (n := 0) clsX5.1 mw_694 mw_696 mw_6 mw_102 mw_697 rfl (okmX5_readClause) (by decide) (Nat.le_refl _) (by decide) (by decide) dX5_read_42 (sd_if_eq (tgt := 77) (by decide) dX5_read_45 (Sd.go) (sd_aload_n (i := 0) rfl dX5_read_48 (sd_dup dX5_read_49 (sd_getI clsX5 (f := 9) (by decide) (fun _ _ _ => rfl) mw_231 dX5_read_50 (sd_iconst (v := 1) (by decide) dX5_read_53 (sd_iadd dX5_read_54 (sd_putI clsX5 (f := 9) (by decide) (fun _ _ _ => rfl) rfl (Or.inl rfl) mw_231 dX5_read_55 (sd_aload_n (i := 0) rfl dX5_read_58 (sd_sipush (v := 159) (by decide) dX5_read_59 (sd_callV (Y' := YX5_sees) (mc' := 0) (ms' := 0) (n := 1) clsX5.1 mw_710 mw_712 mw_10 mw_102 mw_713 rfl (okmX5_sees) (by decide) (Nat.le_refl _) (by decide) (by decide) dX5_read_62 (sd_istore_n (i := 3) rfl (by decide) dX5_read_65 (sd_iload_n (i := 3) rfl dX5_read_66 (sd_if_eq (tgt := 28) (by decide) dX5_read_67 (Sd.go) (sd_aload_n (i := 0) rfl dX5_read_70 (sd_callV (Y' := YX5_take) (mc' := 0) (ms' := 0) (n := 0) clsX5.1 mw_698 mw_700 mw_7 mw_102 mw_701 rfl (okmX5_take) (by decide) (Nat.le_refl _) (by decide) (by decide) dX5_read_71 (sd_goto (tgt := 28) (by decide) dX5_read_74 (Sd.go)))))))))))))))))))))))) : Sd l E YX5_read (d + 1) 4 1203 Q 0 0 28 (bX5_read_28 l E d Q)) ls st h hB
def bX5_read_77 (l : Launch) (E : Ev) (d : Nat) (Q : Option Value → Hp → Prop) : Kt := k_iload 3 (k_if_ne (Go l E YX5_read (d + 1) 4 1203 Q 0 0 90) (k_aload 0 (k_push (.int 20) (k_callV l E 5 12 YX5_sees d 0 0 1 (k_if_ne (k_aload 0 (k_push (.int (-1)) (k_putI 5 12 11 (k_aload 0 (k_getR 5 12 8 (k_aload 0 (k_getI 5 12 9 (k_push (.int 2) (k_imul (k_aload 0 (k_getI 5 12 6 (k_iastore (k_new 2 3 (k_dup (k_aload 0 (k_getR 5 12 7 (k_aload 0 (k_getI 5 12 9 (k_callS l E YJ7_copyOf_59c91 d 1 400 2 (k_aload 0 (k_getR 5 12 8 (k_aload 0 (k_getI 5 12 9 (k_push (.int 2) (k_imul (k_push (.int 1) (k_iadd (k_callS l E YJ7_copyOf_59c91 d 1 400 2 (k_aload 0 (k_getR 5 12 5 (k_aload 0 (k_getI 5 12 6 (k_callS l E YJ7_copyOf_59c91 d 1 400 2 (k_callI l E YX2_init d 0 0 3 (k_aret Q))))))))))))))))))))))))))))))))))) (Go l E YX5_read (d + 1) 4 1203 Q 0 0 90))))))
set_option maxRecDepth 100000 in
set_option maxHeartbeats 4000000 in
theorem gX5_read_77 {l : Launch} {E : Ev} {d : Nat} {Q : Option Value → Hp → Prop} {ls : Lv} {st : List Value} {h : Hp} (hB : bX5_read_77 l E d Q ls st h) : Go l E YX5_read (d + 1) 4 1203 Q 0 0 77 ls st h :=
  (sd_iload_n (i := 3) rfl dX5_read_77 (sd_if_ne (tgt := 90) (by decide) dX5_read_78 (Sd.go) (sd_aload_n (i := 0) rfl dX5_read_81 (sd_bipush (v := 20) (by decide) dX5_read_82 (sd_callV (Y' := YX5_sees) (mc' := 0) (ms' := 0) (n := 1) clsX5.1 mw_710 mw_712 mw_10 mw_102 mw_713 rfl (okmX5_sees) (by decide) (Nat.le_refl _) (by decide) (by decide) dX5_read_84 (sd_if_ne (tgt := 105) (by decide) dX5_read_87 (sd_aload_n (i := 0) rfl dX5_read_105 (sd_iconst (v := (-1)) (by decide) dX5_read_106 (sd_putI clsX5 (f := 11) (by decide) (fun _ _ _ => rfl) rfl (Or.inl rfl) mw_233 dX5_read_107 (sd_aload_n (i := 0) rfl dX5_read_110 (sd_getR clsX5 (f := 8) (by decide) (fun _ _ _ => rfl) mw_230 dX5_read_111 (sd_aload_n (i := 0) rfl dX5_read_114 (sd_getI clsX5 (f := 9) (by decide) (fun _ _ _ => rfl) mw_231 dX5_read_115 (sd_iconst (v := 2) (by decide) dX5_read_118 (sd_imul dX5_read_119 (sd_aload_n (i := 0) rfl dX5_read_120 (sd_getI clsX5 (f := 6) (by decide) (fun _ _ _ => rfl) mw_228 dX5_read_121 (sd_iastore dX5_read_124 (sd_new clsX2 okX2 mw_730 mw_570 mw_110 (by decide) (by decide) dX5_read_125 (sd_dup dX5_read_128 (sd_aload_n (i := 0) rfl dX5_read_129 (sd_getR clsX5 (f := 7) (by decide) (fun _ _ _ => rfl) mw_229 dX5_read_130 (sd_aload_n (i := 0) rfl dX5_read_133 (sd_getI clsX5 (f := 9) (by decide) (fun _ _ _ => rfl) mw_231 dX5_read_134 (sd_callS (Y' := YJ7_copyOf_59c91) (mc' := 1) (ms' := 400) (n := 2) mw_731 mw_732 mw_115 mw_733 (okmJ7_copyOf_59c91) (by decide) (Nat.le_refl _) (by decide) (by decide) dX5_read_137 (sd_aload_n (i := 0) rfl dX5_read_140 (sd_getR clsX5 (f := 8) (by decide) (fun _ _ _ => rfl) mw_230 dX5_read_141 (sd_aload_n (i := 0) rfl dX5_read_144 (sd_getI clsX5 (f := 9) (by decide) (fun _ _ _ => rfl) mw_231 dX5_read_145 (sd_iconst (v := 2) (by decide) dX5_read_148 (sd_imul dX5_read_149 (sd_iconst (v := 1) (by decide) dX5_read_150 (sd_iadd dX5_read_151 (sd_callS (Y' := YJ7_copyOf_59c91) (mc' := 1) (ms' := 400) (n := 2) mw_731 mw_732 mw_115 mw_733 (okmJ7_copyOf_59c91) (by decide) (Nat.le_refl _) (by decide) (by decide) dX5_read_152 (sd_aload_n (i := 0) rfl dX5_read_155 (sd_getR clsX5 (f := 5) (by decide) (fun _ _ _ => rfl) mw_227 dX5_read_156 (sd_aload_n (i := 0) rfl dX5_read_159 (sd_getI clsX5 (f := 6) (by decide) (fun _ _ _ => rfl) mw_228 dX5_read_160 (sd_callS (Y' := YJ7_copyOf_59c91) (mc' := 1) (ms' := 400) (n := 2) mw_731 mw_732 mw_115 mw_733 (okmJ7_copyOf_59c91) (by decide) (Nat.le_refl _) (by decide) (by decide) dX5_read_163 (sd_callI (Y' := YX2_init) (mc' := 0) (ms' := 0) (n := 3) mw_745 mw_746 mw_110 mw_747 rfl rfl (okmX2_init) (by decide) (Nat.le_refl _) (by decide) (by decide) dX5_read_166 (sd_aret (rt := (.object "IllTonight$Law")) rfl (Or.inl ⟨_, rfl⟩) (by decide) (by decide) dX5_read_169))))))))))))))))))))))))))))))))))) (Sd.go)))))) : Sd l E YX5_read (d + 1) 4 1203 Q 0 0 77 (bX5_read_77 l E d Q)) ls st h hB
def bX5_read_90 (l : Launch) (E : Ev) (d : Nat) (Q : Option Value → Hp → Prop) : Kt := k_aload 0 (k_aload 0 (k_getR 5 12 2 (k_aload 0 (k_getI 5 12 4 (k_iaload (k_putI 5 12 11 (k_push .null (k_aret Q))))))))
set_option maxRecDepth 100000 in
set_option maxHeartbeats 4000000 in
theorem gX5_read_90 {l : Launch} {E : Ev} {d : Nat} {Q : Option Value → Hp → Prop} {ls : Lv} {st : List Value} {h : Hp} (hB : bX5_read_90 l E d Q ls st h) : Go l E YX5_read (d + 1) 4 1203 Q 0 0 90 ls st h :=
  (sd_aload_n (i := 0) rfl dX5_read_90 (sd_aload_n (i := 0) rfl dX5_read_91 (sd_getR clsX5 (f := 2) (by decide) (fun _ _ _ => rfl) mw_224 dX5_read_92 (sd_aload_n (i := 0) rfl dX5_read_95 (sd_getI clsX5 (f := 4) (by decide) (fun _ _ _ => rfl) mw_226 dX5_read_96 (sd_iaload dX5_read_99 (sd_putI clsX5 (f := 11) (by decide) (fun _ _ _ => rfl) rfl (Or.inl rfl) mw_233 dX5_read_100 (sd_null dX5_read_103 (sd_aret (rt := (.object "IllTonight$Law")) rfl (Or.inl ⟨_, rfl⟩) (by decide) (by decide) dX5_read_104)))))))) : Sd l E YX5_read (d + 1) 4 1203 Q 0 0 90 (bX5_read_90 l E d Q)) ls st h hB
theorem eX5_read {l : Launch} {E : Ev} {d : Nat} {Q : Option Value → Hp → Prop} {h : Hp} {a0 : Nat} {x1 : Nat} {x2 : Int32} (hk : Go l E YX5_read d 4 1203 Q 0 0 0 [some (.ref a0), some (.ref x1), some (.int x2), none] [] h) : GoM l E YX5_read d 4 1203 [.ref a0, .ref x1, .int x2] h Q := GoM.of (by decide +kernel) rfl (by simp [entA, YX5_read]) hk
theorem dX5_cut_0 : decode cX5_cut 0 = .ok (.aload_n 0, 1) := by decide +kernel
theorem dX5_cut_1 : decode cX5_cut 1 = .ok (.iconst 0, 1) := by decide +kernel
theorem dX5_cut_2 : decode cX5_cut 2 = .ok (.putfield 72, 3) := by decide +kernel
theorem dX5_cut_5 : decode cX5_cut 5 = .ok (.iconst 0, 1) := by decide +kernel
theorem dX5_cut_6 : decode cX5_cut 6 = .ok (.istore_n 3, 1) := by decide +kernel
theorem dX5_cut_7 : decode cX5_cut 7 = .ok (.iconst 0, 1) := by decide +kernel
theorem dX5_cut_8 : decode cX5_cut 8 = .ok (.istore 4, 2) := by decide +kernel
theorem dX5_cut_10 : decode cX5_cut 10 = .ok (.iload 4, 2) := by decide +kernel
theorem dX5_cut_12 : decode cX5_cut 12 = .ok (.iload_n 2, 1) := by decide +kernel
theorem dX5_cut_13 : decode cX5_cut 13 = .ok (.if_icmp .ge 79, 3) := by decide +kernel
theorem dX5_cut_16 : decode cX5_cut 16 = .ok (.iload_n 3, 1) := by decide +kernel
theorem dX5_cut_17 : decode cX5_cut 17 = .ok (.iload_n 2, 1) := by decide +kernel
theorem dX5_cut_18 : decode cX5_cut 18 = .ok (.if_icmp .ge 74, 3) := by decide +kernel
theorem dX5_cut_21 : decode cX5_cut 21 = .ok (.iload_n 3, 1) := by decide +kernel
theorem dX5_cut_22 : decode cX5_cut 22 = .ok (.iconst 1, 1) := by decide +kernel
theorem dX5_cut_23 : decode cX5_cut 23 = .ok (.iadd, 1) := by decide +kernel
theorem dX5_cut_24 : decode cX5_cut 24 = .ok (.istore 5, 2) := by decide +kernel
theorem dX5_cut_26 : decode cX5_cut 26 = .ok (.aload_n 1, 1) := by decide +kernel
theorem dX5_cut_27 : decode cX5_cut 27 = .ok (.iload_n 3, 1) := by decide +kernel
theorem dX5_cut_28 : decode cX5_cut 28 = .ok (.iaload, 1) := by decide +kernel
theorem dX5_cut_29 : decode cX5_cut 29 = .ok (.bipush 32, 2) := by decide +kernel
theorem dX5_cut_31 : decode cX5_cut 31 = .ok (.if_icmp .eq 52, 3) := by decide +kernel
theorem dX5_cut_34 : decode cX5_cut 34 = .ok (.aload_n 1, 1) := by decide +kernel
theorem dX5_cut_35 : decode cX5_cut 35 = .ok (.iload_n 3, 1) := by decide +kernel
theorem dX5_cut_36 : decode cX5_cut 36 = .ok (.iaload, 1) := by decide +kernel
theorem dX5_cut_37 : decode cX5_cut 37 = .ok (.invokestatic 75, 3) := by decide +kernel
theorem dX5_cut_40 : decode cX5_cut 40 = .ok (.istore 6, 2) := by decide +kernel
theorem dX5_cut_42 : decode cX5_cut 42 = .ok (.iload 6, 2) := by decide +kernel
theorem dX5_cut_44 : decode cX5_cut 44 = .ok (.bipush 100, 2) := by decide +kernel
theorem dX5_cut_46 : decode cX5_cut 46 = .ok (.if_icmp .eq 27, 3) := by decide +kernel
theorem dX5_cut_49 : decode cX5_cut 49 = .ok (.iload 5, 2) := by decide +kernel
theorem dX5_cut_51 : decode cX5_cut 51 = .ok (.iload_n 2, 1) := by decide +kernel
theorem dX5_cut_52 : decode cX5_cut 52 = .ok (.if_icmp .ge 21, 3) := by decide +kernel
theorem dX5_cut_55 : decode cX5_cut 55 = .ok (.aload_n 1, 1) := by decide +kernel
theorem dX5_cut_56 : decode cX5_cut 56 = .ok (.iload 5, 2) := by decide +kernel
theorem dX5_cut_58 : decode cX5_cut 58 = .ok (.iaload, 1) := by decide +kernel
theorem dX5_cut_59 : decode cX5_cut 59 = .ok (.invokestatic 75, 3) := by decide +kernel
theorem dX5_cut_62 : decode cX5_cut 62 = .ok (.iload 6, 2) := by decide +kernel
theorem dX5_cut_64 : decode cX5_cut 64 = .ok (.if_icmp .ne 9, 3) := by decide +kernel
theorem dX5_cut_67 : decode cX5_cut 67 = .ok (.iinc 5 1, 3) := by decide +kernel
theorem dX5_cut_70 : decode cX5_cut 70 = .ok (.goto (-28), 3) := by decide +kernel
theorem dX5_cut_73 : decode cX5_cut 73 = .ok (.aload_n 0, 1) := by decide +kernel
theorem dX5_cut_74 : decode cX5_cut 74 = .ok (.aload_n 1, 1) := by decide +kernel
theorem dX5_cut_75 : decode cX5_cut 75 = .ok (.iload_n 3, 1) := by decide +kernel
theorem dX5_cut_76 : decode cX5_cut 76 = .ok (.iload 5, 2) := by decide +kernel
theorem dX5_cut_78 : decode cX5_cut 78 = .ok (.iload 6, 2) := by decide +kernel
theorem dX5_cut_80 : decode cX5_cut 80 = .ok (.invokevirtual 79, 3) := by decide +kernel
theorem dX5_cut_83 : decode cX5_cut 83 = .ok (.iload 5, 2) := by decide +kernel
theorem dX5_cut_85 : decode cX5_cut 85 = .ok (.istore_n 3, 1) := by decide +kernel
theorem dX5_cut_86 : decode cX5_cut 86 = .ok (.iinc 4 1, 3) := by decide +kernel
theorem dX5_cut_89 : decode cX5_cut 89 = .ok (.goto (-79), 3) := by decide +kernel
theorem dX5_cut_92 : decode cX5_cut 92 = .ok (.aload_n 0, 1) := by decide +kernel
theorem dX5_cut_93 : decode cX5_cut 93 = .ok (.getfield 9, 3) := by decide +kernel
theorem dX5_cut_96 : decode cX5_cut 96 = .ok (.aload_n 0, 1) := by decide +kernel
theorem dX5_cut_97 : decode cX5_cut 97 = .ok (.getfield 72, 3) := by decide +kernel
theorem dX5_cut_100 : decode cX5_cut 100 = .ok (.bipush 20, 2) := by decide +kernel
theorem dX5_cut_102 : decode cX5_cut 102 = .ok (.iastore, 1) := by decide +kernel
theorem dX5_cut_103 : decode cX5_cut 103 = .ok (.aload_n 0, 1) := by decide +kernel
theorem dX5_cut_104 : decode cX5_cut 104 = .ok (.getfield 18, 3) := by decide +kernel
theorem dX5_cut_107 : decode cX5_cut 107 = .ok (.aload_n 0, 1) := by decide +kernel
theorem dX5_cut_108 : decode cX5_cut 108 = .ok (.getfield 72, 3) := by decide +kernel
theorem dX5_cut_111 : decode cX5_cut 111 = .ok (.iload_n 2, 1) := by decide +kernel
theorem dX5_cut_112 : decode cX5_cut 112 = .ok (.iastore, 1) := by decide +kernel
theorem dX5_cut_113 : decode cX5_cut 113 = .ok (.aload_n 0, 1) := by decide +kernel
theorem dX5_cut_114 : decode cX5_cut 114 = .ok (.dup, 1) := by decide +kernel
theorem dX5_cut_115 : decode cX5_cut 115 = .ok (.getfield 72, 3) := by decide +kernel
theorem dX5_cut_118 : decode cX5_cut 118 = .ok (.iconst 1, 1) := by decide +kernel
theorem dX5_cut_119 : decode cX5_cut 119 = .ok (.iadd, 1) := by decide +kernel
theorem dX5_cut_120 : decode cX5_cut 120 = .ok (.putfield 72, 3) := by decide +kernel
theorem dX5_cut_123 : decode cX5_cut 123 = .ok (.return_, 1) := by decide +kernel
def bX5_cut_0 (l : Launch) (E : Ev) (d : Nat) (Q : Option Value → Hp → Prop) : Kt := k_aload 0 (k_push (.int 0) (k_putI 5 12 3 (k_push (.int 0) (k_istore 3 (k_push (.int 0) (k_istore 4 (Go l E YX5_cut (d + 1) 0 0 Q 0 0 10)))))))
set_option maxRecDepth 100000 in
set_option maxHeartbeats 4000000 in
theorem gX5_cut_0 {l : Launch} {E : Ev} {d : Nat} {Q : Option Value → Hp → Prop} {ls : Lv} {st : List Value} {h : Hp} (hB : bX5_cut_0 l E d Q ls st h) : Go l E YX5_cut (d + 1) 0 0 Q 0 0 0 ls st h :=
  (sd_aload_n (i := 0) rfl dX5_cut_0 (sd_iconst (v := 0) (by decide) dX5_cut_1 (sd_putI clsX5 (f := 3) (by decide) (fun _ _ _ => rfl) rfl (Or.inl rfl) mw_225 dX5_cut_2 (sd_iconst (v := 0) (by decide) dX5_cut_5 (sd_istore_n (i := 3) rfl (by decide) dX5_cut_6 (sd_iconst (v := 0) (by decide) dX5_cut_7 (sd_istore (i := 4) (by decide) dX5_cut_8 (Sd.go))))))) : Sd l E YX5_cut (d + 1) 0 0 Q 0 0 0 (bX5_cut_0 l E d Q)) ls st h hB
def bX5_cut_10 (l : Launch) (E : Ev) (d : Nat) (Q : Option Value → Hp → Prop) : Kt := k_iload 4 (k_iload 2 (k_icmp_ge (Go l E YX5_cut (d + 1) 0 0 Q 0 0 92) (k_iload 3 (k_iload 2 (k_icmp_ge (Go l E YX5_cut (d + 1) 0 0 Q 0 0 92) (k_iload 3 (k_push (.int 1) (k_iadd (k_istore 5 (k_aload 1 (k_iload 3 (k_iaload (k_push (.int 32) (k_icmp_eq (k_iload 5 (k_istore 3 (k_iinc 4 1 (Go l E YX5_cut (d + 1) 0 0 Q 0 0 10)))) (k_aload 1 (k_iload 3 (k_iaload (k_callS l E YX5_sortOf d 0 0 1 (k_istore 6 (Go l E YX5_cut (d + 1) 0 0 Q 0 0 42))))))))))))))))))))
set_option maxRecDepth 100000 in
set_option maxHeartbeats 4000000 in
theorem gX5_cut_10 {l : Launch} {E : Ev} {d : Nat} {Q : Option Value → Hp → Prop} {ls : Lv} {st : List Value} {h : Hp} (hB : bX5_cut_10 l E d Q ls st h) : Go l E YX5_cut (d + 1) 0 0 Q 0 0 10 ls st h :=
  (sd_iload (n := 4) dX5_cut_10 (sd_iload_n (i := 2) rfl dX5_cut_12 (sd_icmp_ge (tgt := 92) (by decide) dX5_cut_13 (Sd.go) (sd_iload_n (i := 3) rfl dX5_cut_16 (sd_iload_n (i := 2) rfl dX5_cut_17 (sd_icmp_ge (tgt := 92) (by decide) dX5_cut_18 (Sd.go) (sd_iload_n (i := 3) rfl dX5_cut_21 (sd_iconst (v := 1) (by decide) dX5_cut_22 (sd_iadd dX5_cut_23 (sd_istore (i := 5) (by decide) dX5_cut_24 (sd_aload_n (i := 1) rfl dX5_cut_26 (sd_iload_n (i := 3) rfl dX5_cut_27 (sd_iaload dX5_cut_28 (sd_bipush (v := 32) (by decide) dX5_cut_29 (sd_icmp_eq (tgt := 83) (by decide) dX5_cut_31 (sd_iload (n := 5) dX5_cut_83 (sd_istore_n (i := 3) rfl (by decide) dX5_cut_85 (sd_iinc (i := 4) (v := 1) (by decide) (by decide) dX5_cut_86 (sd_goto (tgt := 10) (by decide) dX5_cut_89 (Sd.go))))) (sd_aload_n (i := 1) rfl dX5_cut_34 (sd_iload_n (i := 3) rfl dX5_cut_35 (sd_iaload dX5_cut_36 (sd_callS (Y' := YX5_sortOf) (mc' := 0) (ms' := 0) (n := 1) mw_639 mw_640 mw_102 mw_641 (okmX5_sortOf) (by decide) (Nat.le_refl _) (by decide) (by decide) dX5_cut_37 (sd_istore (i := 6) (by decide) dX5_cut_40 (Sd.go)))))))))))))))))))) : Sd l E YX5_cut (d + 1) 0 0 Q 0 0 10 (bX5_cut_10 l E d Q)) ls st h hB
def bX5_cut_42 (l : Launch) (E : Ev) (d : Nat) (Q : Option Value → Hp → Prop) : Kt := k_iload 6 (k_push (.int 100) (k_icmp_eq (Go l E YX5_cut (d + 1) 0 0 Q 0 0 73) (k_iload 5 (k_iload 2 (k_icmp_ge (Go l E YX5_cut (d + 1) 0 0 Q 0 0 73) (k_aload 1 (k_iload 5 (k_iaload (k_callS l E YX5_sortOf d 0 0 1 (k_iload 6 (k_icmp_ne (Go l E YX5_cut (d + 1) 0 0 Q 0 0 73) (k_iinc 5 1 (Go l E YX5_cut (d + 1) 0 0 Q 0 0 42)))))))))))))
set_option maxRecDepth 100000 in
set_option maxHeartbeats 4000000 in
theorem gX5_cut_42 {l : Launch} {E : Ev} {d : Nat} {Q : Option Value → Hp → Prop} {ls : Lv} {st : List Value} {h : Hp} (hB : bX5_cut_42 l E d Q ls st h) : Go l E YX5_cut (d + 1) 0 0 Q 0 0 42 ls st h :=
  (sd_iload (n := 6) dX5_cut_42 (sd_bipush (v := 100) (by decide) dX5_cut_44 (sd_icmp_eq (tgt := 73) (by decide) dX5_cut_46 (Sd.go) (sd_iload (n := 5) dX5_cut_49 (sd_iload_n (i := 2) rfl dX5_cut_51 (sd_icmp_ge (tgt := 73) (by decide) dX5_cut_52 (Sd.go) (sd_aload_n (i := 1) rfl dX5_cut_55 (sd_iload (n := 5) dX5_cut_56 (sd_iaload dX5_cut_58 (sd_callS (Y' := YX5_sortOf) (mc' := 0) (ms' := 0) (n := 1) mw_639 mw_640 mw_102 mw_641 (okmX5_sortOf) (by decide) (Nat.le_refl _) (by decide) (by decide) dX5_cut_59 (sd_iload (n := 6) dX5_cut_62 (sd_icmp_ne (tgt := 73) (by decide) dX5_cut_64 (Sd.go) (sd_iinc (i := 5) (v := 1) (by decide) (by decide) dX5_cut_67 (sd_goto (tgt := 42) (by decide) dX5_cut_70 (Sd.go)))))))))))))) : Sd l E YX5_cut (d + 1) 0 0 Q 0 0 42 (bX5_cut_42 l E d Q)) ls st h hB
def bX5_cut_73 (l : Launch) (E : Ev) (d : Nat) (Q : Option Value → Hp → Prop) : Kt := k_aload 0 (k_aload 1 (k_iload 3 (k_iload 5 (k_iload 6 (k_callV l E 5 12 YX5_addToken d 0 0 4 (k_iload 5 (k_istore 3 (k_iinc 4 1 (Go l E YX5_cut (d + 1) 0 0 Q 0 0 10)))))))))
set_option maxRecDepth 100000 in
set_option maxHeartbeats 4000000 in
theorem gX5_cut_73 {l : Launch} {E : Ev} {d : Nat} {Q : Option Value → Hp → Prop} {ls : Lv} {st : List Value} {h : Hp} (hB : bX5_cut_73 l E d Q ls st h) : Go l E YX5_cut (d + 1) 0 0 Q 0 0 73 ls st h :=
  (sd_aload_n (i := 0) rfl dX5_cut_73 (sd_aload_n (i := 1) rfl dX5_cut_74 (sd_iload_n (i := 3) rfl dX5_cut_75 (sd_iload (n := 5) dX5_cut_76 (sd_iload (n := 6) dX5_cut_78 (sd_callV (Y' := YX5_addToken) (mc' := 0) (ms' := 0) (n := 4) clsX5.1 mw_642 mw_644 mw_5 mw_102 mw_645 rfl (okmX5_addToken) (by decide) (Nat.le_refl _) (by decide) (by decide) dX5_cut_80 (sd_iload (n := 5) dX5_cut_83 (sd_istore_n (i := 3) rfl (by decide) dX5_cut_85 (sd_iinc (i := 4) (v := 1) (by decide) (by decide) dX5_cut_86 (sd_goto (tgt := 10) (by decide) dX5_cut_89 (Sd.go)))))))))) : Sd l E YX5_cut (d + 1) 0 0 Q 0 0 73 (bX5_cut_73 l E d Q)) ls st h hB
def bX5_cut_92 (l : Launch) (E : Ev) (d : Nat) (Q : Option Value → Hp → Prop) : Kt := k_aload 0 (k_getR 5 12 0 (k_aload 0 (k_getI 5 12 3 (k_push (.int 20) (k_iastore (k_aload 0 (k_getR 5 12 2 (k_aload 0 (k_getI 5 12 3 (k_iload 2 (k_iastore (k_aload 0 (k_dup (k_getI 5 12 3 (k_push (.int 1) (k_iadd (k_putI 5 12 3 (k_vret Q))))))))))))))))))
set_option maxRecDepth 100000 in
set_option maxHeartbeats 4000000 in
theorem gX5_cut_92 {l : Launch} {E : Ev} {d : Nat} {Q : Option Value → Hp → Prop} {ls : Lv} {st : List Value} {h : Hp} (hB : bX5_cut_92 l E d Q ls st h) : Go l E YX5_cut (d + 1) 0 0 Q 0 0 92 ls st h :=
  (sd_aload_n (i := 0) rfl dX5_cut_92 (sd_getR clsX5 (f := 0) (by decide) (fun _ _ _ => rfl) mw_222 dX5_cut_93 (sd_aload_n (i := 0) rfl dX5_cut_96 (sd_getI clsX5 (f := 3) (by decide) (fun _ _ _ => rfl) mw_225 dX5_cut_97 (sd_bipush (v := 20) (by decide) dX5_cut_100 (sd_iastore dX5_cut_102 (sd_aload_n (i := 0) rfl dX5_cut_103 (sd_getR clsX5 (f := 2) (by decide) (fun _ _ _ => rfl) mw_224 dX5_cut_104 (sd_aload_n (i := 0) rfl dX5_cut_107 (sd_getI clsX5 (f := 3) (by decide) (fun _ _ _ => rfl) mw_225 dX5_cut_108 (sd_iload_n (i := 2) rfl dX5_cut_111 (sd_iastore dX5_cut_112 (sd_aload_n (i := 0) rfl dX5_cut_113 (sd_dup dX5_cut_114 (sd_getI clsX5 (f := 3) (by decide) (fun _ _ _ => rfl) mw_225 dX5_cut_115 (sd_iconst (v := 1) (by decide) dX5_cut_118 (sd_iadd dX5_cut_119 (sd_putI clsX5 (f := 3) (by decide) (fun _ _ _ => rfl) rfl (Or.inl rfl) mw_225 dX5_cut_120 (sd_vret rfl (by decide) (by decide) dX5_cut_123)))))))))))))))))) : Sd l E YX5_cut (d + 1) 0 0 Q 0 0 92 (bX5_cut_92 l E d Q)) ls st h hB
theorem eX5_cut {l : Launch} {E : Ev} {d : Nat} {Q : Option Value → Hp → Prop} {h : Hp} {a0 : Nat} {x1 : Nat} {x2 : Int32} (hk : Go l E YX5_cut d 0 0 Q 0 0 0 [some (.ref a0), some (.ref x1), some (.int x2), none, none, none, none] [] h) : GoM l E YX5_cut d 0 0 [.ref a0, .ref x1, .int x2] h Q := GoM.of (by decide +kernel) rfl (by simp [entA, YX5_cut]) hk
theorem dX5_sortOf_0 : decode cX5_sortOf 0 = .ok (.iload_n 0, 1) := by decide +kernel
theorem dX5_sortOf_1 : decode cX5_sortOf 1 = .ok (.bipush 97, 2) := by decide +kernel
theorem dX5_sortOf_3 : decode cX5_sortOf 3 = .ok (.if_icmp .lt 12, 3) := by decide +kernel
theorem dX5_sortOf_6 : decode cX5_sortOf 6 = .ok (.iload_n 0, 1) := by decide +kernel
theorem dX5_sortOf_7 : decode cX5_sortOf 7 = .ok (.bipush 122, 2) := by decide +kernel
theorem dX5_sortOf_9 : decode cX5_sortOf 9 = .ok (.if_icmp .gt 6, 3) := by decide +kernel
theorem dX5_sortOf_12 : decode cX5_sortOf 12 = .ok (.bipush 19, 2) := by decide +kernel
theorem dX5_sortOf_14 : decode cX5_sortOf 14 = .ok (.ireturn, 1) := by decide +kernel
theorem dX5_sortOf_15 : decode cX5_sortOf 15 = .ok (.iload_n 0, 1) := by decide +kernel
theorem dX5_sortOf_16 : decode cX5_sortOf 16 = .ok (.bipush 48, 2) := by decide +kernel
theorem dX5_sortOf_18 : decode cX5_sortOf 18 = .ok (.if_icmp .lt 14, 3) := by decide +kernel
theorem dX5_sortOf_21 : decode cX5_sortOf 21 = .ok (.iload_n 0, 1) := by decide +kernel
theorem dX5_sortOf_22 : decode cX5_sortOf 22 = .ok (.bipush 57, 2) := by decide +kernel
theorem dX5_sortOf_24 : decode cX5_sortOf 24 = .ok (.if_icmp .gt 8, 3) := by decide +kernel
theorem dX5_sortOf_27 : decode cX5_sortOf 27 = .ok (.bipush 18, 2) := by decide +kernel
theorem dX5_sortOf_29 : decode cX5_sortOf 29 = .ok (.goto 5, 3) := by decide +kernel
theorem dX5_sortOf_32 : decode cX5_sortOf 32 = .ok (.bipush 100, 2) := by decide +kernel
theorem dX5_sortOf_34 : decode cX5_sortOf 34 = .ok (.ireturn, 1) := by decide +kernel
def bX5_sortOf_0 (l : Launch) (E : Ev) (d : Nat) (Q : Option Value → Hp → Prop) : Kt := k_iload 0 (k_push (.int 97) (k_icmp_lt (Go l E YX5_sortOf (d + 1) 0 0 Q 0 0 15) (k_iload 0 (k_push (.int 122) (k_icmp_gt (Go l E YX5_sortOf (d + 1) 0 0 Q 0 0 15) (k_push (.int 19) (k_iret .int Q)))))))
set_option maxRecDepth 100000 in
set_option maxHeartbeats 4000000 in
theorem gX5_sortOf_0 {l : Launch} {E : Ev} {d : Nat} {Q : Option Value → Hp → Prop} {ls : Lv} {st : List Value} {h : Hp} (hB : bX5_sortOf_0 l E d Q ls st h) : Go l E YX5_sortOf (d + 1) 0 0 Q 0 0 0 ls st h :=
  (sd_iload_n (i := 0) rfl dX5_sortOf_0 (sd_bipush (v := 97) (by decide) dX5_sortOf_1 (sd_icmp_lt (tgt := 15) (by decide) dX5_sortOf_3 (Sd.go) (sd_iload_n (i := 0) rfl dX5_sortOf_6 (sd_bipush (v := 122) (by decide) dX5_sortOf_7 (sd_icmp_gt (tgt := 15) (by decide) dX5_sortOf_9 (Sd.go) (sd_bipush (v := 19) (by decide) dX5_sortOf_12 (sd_iret (ty := .int) rfl (by decide) (by decide) dX5_sortOf_14))))))) : Sd l E YX5_sortOf (d + 1) 0 0 Q 0 0 0 (bX5_sortOf_0 l E d Q)) ls st h hB
def bX5_sortOf_15 (l : Launch) (E : Ev) (d : Nat) (Q : Option Value → Hp → Prop) : Kt := k_iload 0 (k_push (.int 48) (k_icmp_lt (k_push (.int 100) (k_iret .int Q)) (k_iload 0 (k_push (.int 57) (k_icmp_gt (k_push (.int 100) (k_iret .int Q)) (k_push (.int 18) (k_iret .int Q)))))))
set_option maxRecDepth 100000 in
set_option maxHeartbeats 4000000 in
theorem gX5_sortOf_15 {l : Launch} {E : Ev} {d : Nat} {Q : Option Value → Hp → Prop} {ls : Lv} {st : List Value} {h : Hp} (hB : bX5_sortOf_15 l E d Q ls st h) : Go l E YX5_sortOf (d + 1) 0 0 Q 0 0 15 ls st h :=
  (sd_iload_n (i := 0) rfl dX5_sortOf_15 (sd_bipush (v := 48) (by decide) dX5_sortOf_16 (sd_icmp_lt (tgt := 32) (by decide) dX5_sortOf_18 (sd_bipush (v := 100) (by decide) dX5_sortOf_32 (sd_iret (ty := .int) rfl (by decide) (by decide) dX5_sortOf_34)) (sd_iload_n (i := 0) rfl dX5_sortOf_21 (sd_bipush (v := 57) (by decide) dX5_sortOf_22 (sd_icmp_gt (tgt := 32) (by decide) dX5_sortOf_24 (sd_bipush (v := 100) (by decide) dX5_sortOf_32 (sd_iret (ty := .int) rfl (by decide) (by decide) dX5_sortOf_34)) (sd_bipush (v := 18) (by decide) dX5_sortOf_27 (sd_goto (tgt := 34) (by decide) dX5_sortOf_29 (sd_iret (ty := .int) rfl (by decide) (by decide) dX5_sortOf_34)))))))) : Sd l E YX5_sortOf (d + 1) 0 0 Q 0 0 15 (bX5_sortOf_15 l E d Q)) ls st h hB
theorem eX5_sortOf {l : Launch} {E : Ev} {d : Nat} {Q : Option Value → Hp → Prop} {h : Hp} {x1 : Int32} (hk : Go l E YX5_sortOf d 0 0 Q 0 0 0 [some (.int x1)] [] h) : GoM l E YX5_sortOf d 0 0 [.int x1] h Q := GoM.of (by decide +kernel) rfl (by simp [entA, YX5_sortOf]) hk
theorem dX5_addToken_0 : decode cX5_addToken 0 = .ok (.aload_n 0, 1) := by decide +kernel
theorem dX5_addToken_1 : decode cX5_addToken 1 = .ok (.getfield 18, 3) := by decide +kernel
theorem dX5_addToken_4 : decode cX5_addToken 4 = .ok (.aload_n 0, 1) := by decide +kernel
theorem dX5_addToken_5 : decode cX5_addToken 5 = .ok (.getfield 72, 3) := by decide +kernel
theorem dX5_addToken_8 : decode cX5_addToken 8 = .ok (.iload_n 2, 1) := by decide +kernel
theorem dX5_addToken_9 : decode cX5_addToken 9 = .ok (.iastore, 1) := by decide +kernel
theorem dX5_addToken_10 : decode cX5_addToken 10 = .ok (.aload_n 0, 1) := by decide +kernel
theorem dX5_addToken_11 : decode cX5_addToken 11 = .ok (.getfield 15, 3) := by decide +kernel
theorem dX5_addToken_14 : decode cX5_addToken 14 = .ok (.aload_n 0, 1) := by decide +kernel
theorem dX5_addToken_15 : decode cX5_addToken 15 = .ok (.getfield 72, 3) := by decide +kernel
theorem dX5_addToken_18 : decode cX5_addToken 18 = .ok (.iconst 0, 1) := by decide +kernel
theorem dX5_addToken_19 : decode cX5_addToken 19 = .ok (.iastore, 1) := by decide +kernel
theorem dX5_addToken_20 : decode cX5_addToken 20 = .ok (.iload 4, 2) := by decide +kernel
theorem dX5_addToken_22 : decode cX5_addToken 22 = .ok (.bipush 100, 2) := by decide +kernel
theorem dX5_addToken_24 : decode cX5_addToken 24 = .ok (.if_icmp .ne 21, 3) := by decide +kernel
theorem dX5_addToken_27 : decode cX5_addToken 27 = .ok (.aload_n 0, 1) := by decide +kernel
theorem dX5_addToken_28 : decode cX5_addToken 28 = .ok (.getfield 9, 3) := by decide +kernel
theorem dX5_addToken_31 : decode cX5_addToken 31 = .ok (.aload_n 0, 1) := by decide +kernel
theorem dX5_addToken_32 : decode cX5_addToken 32 = .ok (.getfield 72, 3) := by decide +kernel
theorem dX5_addToken_35 : decode cX5_addToken 35 = .ok (.bipush 100, 2) := by decide +kernel
theorem dX5_addToken_37 : decode cX5_addToken 37 = .ok (.aload_n 1, 1) := by decide +kernel
theorem dX5_addToken_38 : decode cX5_addToken 38 = .ok (.iload_n 2, 1) := by decide +kernel
theorem dX5_addToken_39 : decode cX5_addToken 39 = .ok (.iaload, 1) := by decide +kernel
theorem dX5_addToken_40 : decode cX5_addToken 40 = .ok (.iadd, 1) := by decide +kernel
theorem dX5_addToken_41 : decode cX5_addToken 41 = .ok (.iastore, 1) := by decide +kernel
theorem dX5_addToken_42 : decode cX5_addToken 42 = .ok (.goto 74, 3) := by decide +kernel
theorem dX5_addToken_45 : decode cX5_addToken 45 = .ok (.iload 4, 2) := by decide +kernel
theorem dX5_addToken_47 : decode cX5_addToken 47 = .ok (.bipush 18, 2) := by decide +kernel
theorem dX5_addToken_49 : decode cX5_addToken 49 = .ok (.if_icmp .ne 52, 3) := by decide +kernel
theorem dX5_addToken_52 : decode cX5_addToken 52 = .ok (.aload_n 0, 1) := by decide +kernel
theorem dX5_addToken_53 : decode cX5_addToken 53 = .ok (.getfield 15, 3) := by decide +kernel
theorem dX5_addToken_56 : decode cX5_addToken 56 = .ok (.aload_n 0, 1) := by decide +kernel
theorem dX5_addToken_57 : decode cX5_addToken 57 = .ok (.getfield 72, 3) := by decide +kernel
theorem dX5_addToken_60 : decode cX5_addToken 60 = .ok (.aload_n 1, 1) := by decide +kernel
theorem dX5_addToken_61 : decode cX5_addToken 61 = .ok (.iload_n 2, 1) := by decide +kernel
theorem dX5_addToken_62 : decode cX5_addToken 62 = .ok (.iload_n 3, 1) := by decide +kernel
theorem dX5_addToken_63 : decode cX5_addToken 63 = .ok (.invokestatic 83, 3) := by decide +kernel
theorem dX5_addToken_66 : decode cX5_addToken 66 = .ok (.iastore, 1) := by decide +kernel
theorem dX5_addToken_67 : decode cX5_addToken 67 = .ok (.aload_n 0, 1) := by decide +kernel
theorem dX5_addToken_68 : decode cX5_addToken 68 = .ok (.getfield 9, 3) := by decide +kernel
theorem dX5_addToken_71 : decode cX5_addToken 71 = .ok (.aload_n 0, 1) := by decide +kernel
theorem dX5_addToken_72 : decode cX5_addToken 72 = .ok (.getfield 72, 3) := by decide +kernel
theorem dX5_addToken_75 : decode cX5_addToken 75 = .ok (.aload_n 0, 1) := by decide +kernel
theorem dX5_addToken_76 : decode cX5_addToken 76 = .ok (.getfield 15, 3) := by decide +kernel
theorem dX5_addToken_79 : decode cX5_addToken 79 = .ok (.aload_n 0, 1) := by decide +kernel
theorem dX5_addToken_80 : decode cX5_addToken 80 = .ok (.getfield 72, 3) := by decide +kernel
theorem dX5_addToken_83 : decode cX5_addToken 83 = .ok (.iaload, 1) := by decide +kernel
theorem dX5_addToken_84 : decode cX5_addToken 84 = .ok (.sipush 1000, 3) := by decide +kernel
theorem dX5_addToken_87 : decode cX5_addToken 87 = .ok (.if_icmp .le 8, 3) := by decide +kernel
theorem dX5_addToken_90 : decode cX5_addToken 90 = .ok (.bipush 19, 2) := by decide +kernel
theorem dX5_addToken_92 : decode cX5_addToken 92 = .ok (.goto 5, 3) := by decide +kernel
theorem dX5_addToken_95 : decode cX5_addToken 95 = .ok (.bipush 18, 2) := by decide +kernel
theorem dX5_addToken_97 : decode cX5_addToken 97 = .ok (.iastore, 1) := by decide +kernel
theorem dX5_addToken_98 : decode cX5_addToken 98 = .ok (.goto 18, 3) := by decide +kernel
theorem dX5_addToken_101 : decode cX5_addToken 101 = .ok (.aload_n 0, 1) := by decide +kernel
theorem dX5_addToken_102 : decode cX5_addToken 102 = .ok (.getfield 9, 3) := by decide +kernel
theorem dX5_addToken_105 : decode cX5_addToken 105 = .ok (.aload_n 0, 1) := by decide +kernel
theorem dX5_addToken_106 : decode cX5_addToken 106 = .ok (.getfield 72, 3) := by decide +kernel
theorem dX5_addToken_109 : decode cX5_addToken 109 = .ok (.aload_n 1, 1) := by decide +kernel
theorem dX5_addToken_110 : decode cX5_addToken 110 = .ok (.iload_n 2, 1) := by decide +kernel
theorem dX5_addToken_111 : decode cX5_addToken 111 = .ok (.iload_n 3, 1) := by decide +kernel
theorem dX5_addToken_112 : decode cX5_addToken 112 = .ok (.invokestatic 87, 3) := by decide +kernel
theorem dX5_addToken_115 : decode cX5_addToken 115 = .ok (.iastore, 1) := by decide +kernel
theorem dX5_addToken_116 : decode cX5_addToken 116 = .ok (.aload_n 0, 1) := by decide +kernel
theorem dX5_addToken_117 : decode cX5_addToken 117 = .ok (.dup, 1) := by decide +kernel
theorem dX5_addToken_118 : decode cX5_addToken 118 = .ok (.getfield 72, 3) := by decide +kernel
theorem dX5_addToken_121 : decode cX5_addToken 121 = .ok (.iconst 1, 1) := by decide +kernel
theorem dX5_addToken_122 : decode cX5_addToken 122 = .ok (.iadd, 1) := by decide +kernel
theorem dX5_addToken_123 : decode cX5_addToken 123 = .ok (.putfield 72, 3) := by decide +kernel
theorem dX5_addToken_126 : decode cX5_addToken 126 = .ok (.return_, 1) := by decide +kernel
def bX5_addToken_0 (l : Launch) (E : Ev) (d : Nat) (Q : Option Value → Hp → Prop) : Kt := k_aload 0 (k_getR 5 12 2 (k_aload 0 (k_getI 5 12 3 (k_iload 2 (k_iastore (k_aload 0 (k_getR 5 12 1 (k_aload 0 (k_getI 5 12 3 (k_push (.int 0) (k_iastore (k_iload 4 (k_push (.int 100) (k_icmp_ne (k_iload 4 (k_push (.int 18) (k_icmp_ne (k_aload 0 (k_getR 5 12 0 (k_aload 0 (k_getI 5 12 3 (k_aload 1 (k_iload 2 (k_iload 3 (k_callS l E YX5_wordOf d 0 0 3 (k_iastore (k_aload 0 (k_dup (k_getI 5 12 3 (k_push (.int 1) (k_iadd (k_putI 5 12 3 (k_vret Q)))))))))))))))) (k_aload 0 (k_getR 5 12 1 (k_aload 0 (k_getI 5 12 3 (k_aload 1 (k_iload 2 (k_iload 3 (k_callS l E YX5_valueOf d 0 0 3 (k_iastore (k_aload 0 (k_getR 5 12 0 (k_aload 0 (k_getI 5 12 3 (k_aload 0 (k_getR 5 12 1 (k_aload 0 (k_getI 5 12 3 (k_iaload (k_push (.int 1000) (k_icmp_le (k_push (.int 18) (k_iastore (k_aload 0 (k_dup (k_getI 5 12 3 (k_push (.int 1) (k_iadd (k_putI 5 12 3 (k_vret Q))))))))) (k_push (.int 19) (k_iastore (k_aload 0 (k_dup (k_getI 5 12 3 (k_push (.int 1) (k_iadd (k_putI 5 12 3 (k_vret Q)))))))))))))))))))))))))))))))) (k_aload 0 (k_getR 5 12 0 (k_aload 0 (k_getI 5 12 3 (k_push (.int 100) (k_aload 1 (k_iload 2 (k_iaload (k_iadd (k_iastore (k_aload 0 (k_dup (k_getI 5 12 3 (k_push (.int 1) (k_iadd (k_putI 5 12 3 (k_vret Q)))))))))))))))))))))))))))))))
set_option maxRecDepth 100000 in
set_option maxHeartbeats 4000000 in
theorem gX5_addToken_0 {l : Launch} {E : Ev} {d : Nat} {Q : Option Value → Hp → Prop} {ls : Lv} {st : List Value} {h : Hp} (hB : bX5_addToken_0 l E d Q ls st h) : Go l E YX5_addToken (d + 1) 0 0 Q 0 0 0 ls st h :=
  (sd_aload_n (i := 0) rfl dX5_addToken_0 (sd_getR clsX5 (f := 2) (by decide) (fun _ _ _ => rfl) mw_224 dX5_addToken_1 (sd_aload_n (i := 0) rfl dX5_addToken_4 (sd_getI clsX5 (f := 3) (by decide) (fun _ _ _ => rfl) mw_225 dX5_addToken_5 (sd_iload_n (i := 2) rfl dX5_addToken_8 (sd_iastore dX5_addToken_9 (sd_aload_n (i := 0) rfl dX5_addToken_10 (sd_getR clsX5 (f := 1) (by decide) (fun _ _ _ => rfl) mw_223 dX5_addToken_11 (sd_aload_n (i := 0) rfl dX5_addToken_14 (sd_getI clsX5 (f := 3) (by decide) (fun _ _ _ => rfl) mw_225 dX5_addToken_15 (sd_iconst (v := 0) (by decide) dX5_addToken_18 (sd_iastore dX5_addToken_19 (sd_iload (n := 4) dX5_addToken_20 (sd_bipush (v := 100) (by decide) dX5_addToken_22 (sd_icmp_ne (tgt := 45) (by decide) dX5_addToken_24 (sd_iload (n := 4) dX5_addToken_45 (sd_bipush (v := 18) (by decide) dX5_addToken_47 (sd_icmp_ne (tgt := 101) (by decide) dX5_addToken_49 (sd_aload_n (i := 0) rfl dX5_addToken_101 (sd_getR clsX5 (f := 0) (by decide) (fun _ _ _ => rfl) mw_222 dX5_addToken_102 (sd_aload_n (i := 0) rfl dX5_addToken_105 (sd_getI clsX5 (f := 3) (by decide) (fun _ _ _ => rfl) mw_225 dX5_addToken_106 (sd_aload_n (i := 1) rfl dX5_addToken_109 (sd_iload_n (i := 2) rfl dX5_addToken_110 (sd_iload_n (i := 3) rfl dX5_addToken_111 (sd_callS (Y' := YX5_wordOf) (mc' := 0) (ms' := 0) (n := 3) mw_650 mw_651 mw_102 mw_652 (okmX5_wordOf) (by decide) (Nat.le_refl _) (by decide) (by decide) dX5_addToken_112 (sd_iastore dX5_addToken_115 (sd_aload_n (i := 0) rfl dX5_addToken_116 (sd_dup dX5_addToken_117 (sd_getI clsX5 (f := 3) (by decide) (fun _ _ _ => rfl) mw_225 dX5_addToken_118 (sd_iconst (v := 1) (by decide) dX5_addToken_121 (sd_iadd dX5_addToken_122 (sd_putI clsX5 (f := 3) (by decide) (fun _ _ _ => rfl) rfl (Or.inl rfl) mw_225 dX5_addToken_123 (sd_vret rfl (by decide) (by decide) dX5_addToken_126)))))))))))))))) (sd_aload_n (i := 0) rfl dX5_addToken_52 (sd_getR clsX5 (f := 1) (by decide) (fun _ _ _ => rfl) mw_223 dX5_addToken_53 (sd_aload_n (i := 0) rfl dX5_addToken_56 (sd_getI clsX5 (f := 3) (by decide) (fun _ _ _ => rfl) mw_225 dX5_addToken_57 (sd_aload_n (i := 1) rfl dX5_addToken_60 (sd_iload_n (i := 2) rfl dX5_addToken_61 (sd_iload_n (i := 3) rfl dX5_addToken_62 (sd_callS (Y' := YX5_valueOf) (mc' := 0) (ms' := 0) (n := 3) mw_646 mw_647 mw_102 mw_648 (okmX5_valueOf) (by decide) (Nat.le_refl _) (by decide) (by decide) dX5_addToken_63 (sd_iastore dX5_addToken_66 (sd_aload_n (i := 0) rfl dX5_addToken_67 (sd_getR clsX5 (f := 0) (by decide) (fun _ _ _ => rfl) mw_222 dX5_addToken_68 (sd_aload_n (i := 0) rfl dX5_addToken_71 (sd_getI clsX5 (f := 3) (by decide) (fun _ _ _ => rfl) mw_225 dX5_addToken_72 (sd_aload_n (i := 0) rfl dX5_addToken_75 (sd_getR clsX5 (f := 1) (by decide) (fun _ _ _ => rfl) mw_223 dX5_addToken_76 (sd_aload_n (i := 0) rfl dX5_addToken_79 (sd_getI clsX5 (f := 3) (by decide) (fun _ _ _ => rfl) mw_225 dX5_addToken_80 (sd_iaload dX5_addToken_83 (sd_sipush (v := 1000) (by decide) dX5_addToken_84 (sd_icmp_le (tgt := 95) (by decide) dX5_addToken_87 (sd_bipush (v := 18) (by decide) dX5_addToken_95 (sd_iastore dX5_addToken_97 (sd_goto (tgt := 116) (by decide) dX5_addToken_98 (sd_aload_n (i := 0) rfl dX5_addToken_116 (sd_dup dX5_addToken_117 (sd_getI clsX5 (f := 3) (by decide) (fun _ _ _ => rfl) mw_225 dX5_addToken_118 (sd_iconst (v := 1) (by decide) dX5_addToken_121 (sd_iadd dX5_addToken_122 (sd_putI clsX5 (f := 3) (by decide) (fun _ _ _ => rfl) rfl (Or.inl rfl) mw_225 dX5_addToken_123 (sd_vret rfl (by decide) (by decide) dX5_addToken_126)))))))))) (sd_bipush (v := 19) (by decide) dX5_addToken_90 (sd_goto (tgt := 97) (by decide) dX5_addToken_92 (sd_iastore dX5_addToken_97 (sd_goto (tgt := 116) (by decide) dX5_addToken_98 (sd_aload_n (i := 0) rfl dX5_addToken_116 (sd_dup dX5_addToken_117 (sd_getI clsX5 (f := 3) (by decide) (fun _ _ _ => rfl) mw_225 dX5_addToken_118 (sd_iconst (v := 1) (by decide) dX5_addToken_121 (sd_iadd dX5_addToken_122 (sd_putI clsX5 (f := 3) (by decide) (fun _ _ _ => rfl) rfl (Or.inl rfl) mw_225 dX5_addToken_123 (sd_vret rfl (by decide) (by decide) dX5_addToken_126)))))))))))))))))))))))))))))))))) (sd_aload_n (i := 0) rfl dX5_addToken_27 (sd_getR clsX5 (f := 0) (by decide) (fun _ _ _ => rfl) mw_222 dX5_addToken_28 (sd_aload_n (i := 0) rfl dX5_addToken_31 (sd_getI clsX5 (f := 3) (by decide) (fun _ _ _ => rfl) mw_225 dX5_addToken_32 (sd_bipush (v := 100) (by decide) dX5_addToken_35 (sd_aload_n (i := 1) rfl dX5_addToken_37 (sd_iload_n (i := 2) rfl dX5_addToken_38 (sd_iaload dX5_addToken_39 (sd_iadd dX5_addToken_40 (sd_iastore dX5_addToken_41 (sd_goto (tgt := 116) (by decide) dX5_addToken_42 (sd_aload_n (i := 0) rfl dX5_addToken_116 (sd_dup dX5_addToken_117 (sd_getI clsX5 (f := 3) (by decide) (fun _ _ _ => rfl) mw_225 dX5_addToken_118 (sd_iconst (v := 1) (by decide) dX5_addToken_121 (sd_iadd dX5_addToken_122 (sd_putI clsX5 (f := 3) (by decide) (fun _ _ _ => rfl) rfl (Or.inl rfl) mw_225 dX5_addToken_123 (sd_vret rfl (by decide) (by decide) dX5_addToken_126)))))))))))))))))))))))))))))))) : Sd l E YX5_addToken (d + 1) 0 0 Q 0 0 0 (bX5_addToken_0 l E d Q)) ls st h hB
theorem eX5_addToken {l : Launch} {E : Ev} {d : Nat} {Q : Option Value → Hp → Prop} {h : Hp} {a0 : Nat} {x1 : Nat} {x2 : Int32} {x3 : Int32} {x4 : Int32} (hk : Go l E YX5_addToken d 0 0 Q 0 0 0 [some (.ref a0), some (.ref x1), some (.int x2), some (.int x3), some (.int x4)] [] h) : GoM l E YX5_addToken d 0 0 [.ref a0, .ref x1, .int x2, .int x3, .int x4] h Q := GoM.of (by decide +kernel) rfl (by simp [entA, YX5_addToken]) hk
theorem dX5_valueOf_0 : decode cX5_valueOf 0 = .ok (.iconst 0, 1) := by decide +kernel
theorem dX5_valueOf_1 : decode cX5_valueOf 1 = .ok (.istore_n 3, 1) := by decide +kernel
theorem dX5_valueOf_2 : decode cX5_valueOf 2 = .ok (.iload_n 1, 1) := by decide +kernel
theorem dX5_valueOf_3 : decode cX5_valueOf 3 = .ok (.istore 4, 2) := by decide +kernel
theorem dX5_valueOf_5 : decode cX5_valueOf 5 = .ok (.iload 4, 2) := by decide +kernel
theorem dX5_valueOf_7 : decode cX5_valueOf 7 = .ok (.iload_n 2, 1) := by decide +kernel
theorem dX5_valueOf_8 : decode cX5_valueOf 8 = .ok (.if_icmp .ge 28, 3) := by decide +kernel
theorem dX5_valueOf_11 : decode cX5_valueOf 11 = .ok (.sipush 1001, 3) := by decide +kernel
theorem dX5_valueOf_14 : decode cX5_valueOf 14 = .ok (.iload_n 3, 1) := by decide +kernel
theorem dX5_valueOf_15 : decode cX5_valueOf 15 = .ok (.bipush 10, 2) := by decide +kernel
theorem dX5_valueOf_17 : decode cX5_valueOf 17 = .ok (.imul, 1) := by decide +kernel
theorem dX5_valueOf_18 : decode cX5_valueOf 18 = .ok (.aload_n 0, 1) := by decide +kernel
theorem dX5_valueOf_19 : decode cX5_valueOf 19 = .ok (.iload 4, 2) := by decide +kernel
theorem dX5_valueOf_21 : decode cX5_valueOf 21 = .ok (.iaload, 1) := by decide +kernel
theorem dX5_valueOf_22 : decode cX5_valueOf 22 = .ok (.iadd, 1) := by decide +kernel
theorem dX5_valueOf_23 : decode cX5_valueOf 23 = .ok (.bipush 48, 2) := by decide +kernel
theorem dX5_valueOf_25 : decode cX5_valueOf 25 = .ok (.isub, 1) := by decide +kernel
theorem dX5_valueOf_26 : decode cX5_valueOf 26 = .ok (.invokestatic 90, 3) := by decide +kernel
theorem dX5_valueOf_29 : decode cX5_valueOf 29 = .ok (.istore_n 3, 1) := by decide +kernel
theorem dX5_valueOf_30 : decode cX5_valueOf 30 = .ok (.iinc 4 1, 3) := by decide +kernel
theorem dX5_valueOf_33 : decode cX5_valueOf 33 = .ok (.goto (-28), 3) := by decide +kernel
theorem dX5_valueOf_36 : decode cX5_valueOf 36 = .ok (.iload_n 3, 1) := by decide +kernel
theorem dX5_valueOf_37 : decode cX5_valueOf 37 = .ok (.ireturn, 1) := by decide +kernel
def bX5_valueOf_0 (l : Launch) (E : Ev) (d : Nat) (Q : Option Value → Hp → Prop) : Kt := k_push (.int 0) (k_istore 3 (k_iload 1 (k_istore 4 (Go l E YX5_valueOf (d + 1) 0 0 Q 0 0 5))))
set_option maxRecDepth 100000 in
set_option maxHeartbeats 4000000 in
theorem gX5_valueOf_0 {l : Launch} {E : Ev} {d : Nat} {Q : Option Value → Hp → Prop} {ls : Lv} {st : List Value} {h : Hp} (hB : bX5_valueOf_0 l E d Q ls st h) : Go l E YX5_valueOf (d + 1) 0 0 Q 0 0 0 ls st h :=
  (sd_iconst (v := 0) (by decide) dX5_valueOf_0 (sd_istore_n (i := 3) rfl (by decide) dX5_valueOf_1 (sd_iload_n (i := 1) rfl dX5_valueOf_2 (sd_istore (i := 4) (by decide) dX5_valueOf_3 (Sd.go)))) : Sd l E YX5_valueOf (d + 1) 0 0 Q 0 0 0 (bX5_valueOf_0 l E d Q)) ls st h hB
def bX5_valueOf_5 (l : Launch) (E : Ev) (d : Nat) (Q : Option Value → Hp → Prop) : Kt := k_iload 4 (k_iload 2 (k_icmp_ge (k_iload 3 (k_iret .int Q)) (k_push (.int 1001) (k_iload 3 (k_push (.int 10) (k_imul (k_aload 0 (k_iload 4 (k_iaload (k_iadd (k_push (.int 48) (k_isub (k_mmin (k_istore 3 (k_iinc 4 1 (Go l E YX5_valueOf (d + 1) 0 0 Q 0 0 5))))))))))))))))
set_option maxRecDepth 100000 in
set_option maxHeartbeats 4000000 in
theorem gX5_valueOf_5 {l : Launch} {E : Ev} {d : Nat} {Q : Option Value → Hp → Prop} {ls : Lv} {st : List Value} {h : Hp} (hB : bX5_valueOf_5 l E d Q ls st h) : Go l E YX5_valueOf (d + 1) 0 0 Q 0 0 5 ls st h :=
  (sd_iload (n := 4) dX5_valueOf_5 (sd_iload_n (i := 2) rfl dX5_valueOf_7 (sd_icmp_ge (tgt := 36) (by decide) dX5_valueOf_8 (sd_iload_n (i := 3) rfl dX5_valueOf_36 (sd_iret (ty := .int) rfl (by decide) (by decide) dX5_valueOf_37)) (sd_sipush (v := 1001) (by decide) dX5_valueOf_11 (sd_iload_n (i := 3) rfl dX5_valueOf_14 (sd_bipush (v := 10) (by decide) dX5_valueOf_15 (sd_imul dX5_valueOf_17 (sd_aload_n (i := 0) rfl dX5_valueOf_18 (sd_iload (n := 4) dX5_valueOf_19 (sd_iaload dX5_valueOf_21 (sd_iadd dX5_valueOf_22 (sd_bipush (v := 48) (by decide) dX5_valueOf_23 (sd_isub dX5_valueOf_25 (sd_mmin mw_649 mw_587 mw_109 mw_588 (by omega) (by decide) (by decide) dX5_valueOf_26 (sd_istore_n (i := 3) rfl (by decide) dX5_valueOf_29 (sd_iinc (i := 4) (v := 1) (by decide) (by decide) dX5_valueOf_30 (sd_goto (tgt := 5) (by decide) dX5_valueOf_33 (Sd.go))))))))))))))))) : Sd l E YX5_valueOf (d + 1) 0 0 Q 0 0 5 (bX5_valueOf_5 l E d Q)) ls st h hB
theorem eX5_valueOf {l : Launch} {E : Ev} {d : Nat} {Q : Option Value → Hp → Prop} {h : Hp} {x1 : Nat} {x2 : Int32} {x3 : Int32} (hk : Go l E YX5_valueOf d 0 0 Q 0 0 0 [some (.ref x1), some (.int x2), some (.int x3), none, none] [] h) : GoM l E YX5_valueOf d 0 0 [.ref x1, .int x2, .int x3] h Q := GoM.of (by decide +kernel) rfl (by simp [entA, YX5_valueOf]) hk
theorem dX5_wordOf_0 : decode cX5_wordOf 0 = .ok (.iload_n 2, 1) := by decide +kernel
theorem dX5_wordOf_1 : decode cX5_wordOf 1 = .ok (.iload_n 1, 1) := by decide +kernel
theorem dX5_wordOf_2 : decode cX5_wordOf 2 = .ok (.isub, 1) := by decide +kernel
theorem dX5_wordOf_3 : decode cX5_wordOf 3 = .ok (.istore_n 3, 1) := by decide +kernel
theorem dX5_wordOf_4 : decode cX5_wordOf 4 = .ok (.iconst 0, 1) := by decide +kernel
theorem dX5_wordOf_5 : decode cX5_wordOf 5 = .ok (.istore 4, 2) := by decide +kernel
theorem dX5_wordOf_7 : decode cX5_wordOf 7 = .ok (.iload 4, 2) := by decide +kernel
theorem dX5_wordOf_9 : decode cX5_wordOf 9 = .ok (.bipush 18, 2) := by decide +kernel
theorem dX5_wordOf_11 : decode cX5_wordOf 11 = .ok (.if_icmp .ge 78, 3) := by decide +kernel
theorem dX5_wordOf_14 : decode cX5_wordOf 14 = .ok (.iload_n 3, 1) := by decide +kernel
theorem dX5_wordOf_15 : decode cX5_wordOf 15 = .ok (.bipush 7, 2) := by decide +kernel
theorem dX5_wordOf_17 : decode cX5_wordOf 17 = .ok (.if_icmp .ge 72, 3) := by decide +kernel
theorem dX5_wordOf_20 : decode cX5_wordOf 20 = .ok (.iconst 0, 1) := by decide +kernel
theorem dX5_wordOf_21 : decode cX5_wordOf 21 = .ok (.istore 5, 2) := by decide +kernel
theorem dX5_wordOf_23 : decode cX5_wordOf 23 = .ok (.iload 5, 2) := by decide +kernel
theorem dX5_wordOf_25 : decode cX5_wordOf 25 = .ok (.iload_n 3, 1) := by decide +kernel
theorem dX5_wordOf_26 : decode cX5_wordOf 26 = .ok (.if_icmp .ge 31, 3) := by decide +kernel
theorem dX5_wordOf_29 : decode cX5_wordOf 29 = .ok (.ldc 96, 2) := by decide +kernel
theorem dX5_wordOf_31 : decode cX5_wordOf 31 = .ok (.iload 4, 2) := by decide +kernel
theorem dX5_wordOf_33 : decode cX5_wordOf 33 = .ok (.bipush 7, 2) := by decide +kernel
theorem dX5_wordOf_35 : decode cX5_wordOf 35 = .ok (.imul, 1) := by decide +kernel
theorem dX5_wordOf_36 : decode cX5_wordOf 36 = .ok (.iload 5, 2) := by decide +kernel
theorem dX5_wordOf_38 : decode cX5_wordOf 38 = .ok (.iadd, 1) := by decide +kernel
theorem dX5_wordOf_39 : decode cX5_wordOf 39 = .ok (.invokevirtual 98, 3) := by decide +kernel
theorem dX5_wordOf_42 : decode cX5_wordOf 42 = .ok (.aload_n 0, 1) := by decide +kernel
theorem dX5_wordOf_43 : decode cX5_wordOf 43 = .ok (.iload_n 1, 1) := by decide +kernel
theorem dX5_wordOf_44 : decode cX5_wordOf 44 = .ok (.iload 5, 2) := by decide +kernel
theorem dX5_wordOf_46 : decode cX5_wordOf 46 = .ok (.iadd, 1) := by decide +kernel
theorem dX5_wordOf_47 : decode cX5_wordOf 47 = .ok (.iaload, 1) := by decide +kernel
theorem dX5_wordOf_48 : decode cX5_wordOf 48 = .ok (.if_icmp .ne 9, 3) := by decide +kernel
theorem dX5_wordOf_51 : decode cX5_wordOf 51 = .ok (.iinc 5 1, 3) := by decide +kernel
theorem dX5_wordOf_54 : decode cX5_wordOf 54 = .ok (.goto (-31), 3) := by decide +kernel
theorem dX5_wordOf_57 : decode cX5_wordOf 57 = .ok (.iload 5, 2) := by decide +kernel
theorem dX5_wordOf_59 : decode cX5_wordOf 59 = .ok (.iload_n 3, 1) := by decide +kernel
theorem dX5_wordOf_60 : decode cX5_wordOf 60 = .ok (.if_icmp .ne 23, 3) := by decide +kernel
theorem dX5_wordOf_63 : decode cX5_wordOf 63 = .ok (.ldc 96, 2) := by decide +kernel
theorem dX5_wordOf_65 : decode cX5_wordOf 65 = .ok (.iload 4, 2) := by decide +kernel
theorem dX5_wordOf_67 : decode cX5_wordOf 67 = .ok (.bipush 7, 2) := by decide +kernel
theorem dX5_wordOf_69 : decode cX5_wordOf 69 = .ok (.imul, 1) := by decide +kernel
theorem dX5_wordOf_70 : decode cX5_wordOf 70 = .ok (.iload_n 3, 1) := by decide +kernel
theorem dX5_wordOf_71 : decode cX5_wordOf 71 = .ok (.iadd, 1) := by decide +kernel
theorem dX5_wordOf_72 : decode cX5_wordOf 72 = .ok (.invokevirtual 98, 3) := by decide +kernel
theorem dX5_wordOf_75 : decode cX5_wordOf 75 = .ok (.bipush 32, 2) := by decide +kernel
theorem dX5_wordOf_77 : decode cX5_wordOf 77 = .ok (.if_icmp .ne 6, 3) := by decide +kernel
theorem dX5_wordOf_80 : decode cX5_wordOf 80 = .ok (.iload 4, 2) := by decide +kernel
theorem dX5_wordOf_82 : decode cX5_wordOf 82 = .ok (.ireturn, 1) := by decide +kernel
theorem dX5_wordOf_83 : decode cX5_wordOf 83 = .ok (.iinc 4 1, 3) := by decide +kernel
theorem dX5_wordOf_86 : decode cX5_wordOf 86 = .ok (.goto (-79), 3) := by decide +kernel
theorem dX5_wordOf_89 : decode cX5_wordOf 89 = .ok (.bipush 19, 2) := by decide +kernel
theorem dX5_wordOf_91 : decode cX5_wordOf 91 = .ok (.ireturn, 1) := by decide +kernel
def bX5_wordOf_0 (l : Launch) (E : Ev) (d : Nat) (Q : Option Value → Hp → Prop) : Kt := k_iload 2 (k_iload 1 (k_isub (k_istore 3 (k_push (.int 0) (k_istore 4 (Go l E YX5_wordOf (d + 1) 0 0 Q 0 0 7))))))
set_option maxRecDepth 100000 in
set_option maxHeartbeats 4000000 in
theorem gX5_wordOf_0 {l : Launch} {E : Ev} {d : Nat} {Q : Option Value → Hp → Prop} {ls : Lv} {st : List Value} {h : Hp} (hB : bX5_wordOf_0 l E d Q ls st h) : Go l E YX5_wordOf (d + 1) 0 0 Q 0 0 0 ls st h :=
  (sd_iload_n (i := 2) rfl dX5_wordOf_0 (sd_iload_n (i := 1) rfl dX5_wordOf_1 (sd_isub dX5_wordOf_2 (sd_istore_n (i := 3) rfl (by decide) dX5_wordOf_3 (sd_iconst (v := 0) (by decide) dX5_wordOf_4 (sd_istore (i := 4) (by decide) dX5_wordOf_5 (Sd.go)))))) : Sd l E YX5_wordOf (d + 1) 0 0 Q 0 0 0 (bX5_wordOf_0 l E d Q)) ls st h hB
def bX5_wordOf_7 (l : Launch) (E : Ev) (d : Nat) (Q : Option Value → Hp → Prop) : Kt := k_iload 4 (k_push (.int 18) (k_icmp_ge (k_push (.int 19) (k_iret .int Q)) (k_iload 3 (k_push (.int 7) (k_icmp_ge (k_push (.int 19) (k_iret .int Q)) (k_push (.int 0) (k_istore 5 (Go l E YX5_wordOf (d + 1) 0 0 Q 0 0 23))))))))
set_option maxRecDepth 100000 in
set_option maxHeartbeats 4000000 in
theorem gX5_wordOf_7 {l : Launch} {E : Ev} {d : Nat} {Q : Option Value → Hp → Prop} {ls : Lv} {st : List Value} {h : Hp} (hB : bX5_wordOf_7 l E d Q ls st h) : Go l E YX5_wordOf (d + 1) 0 0 Q 0 0 7 ls st h :=
  (sd_iload (n := 4) dX5_wordOf_7 (sd_bipush (v := 18) (by decide) dX5_wordOf_9 (sd_icmp_ge (tgt := 89) (by decide) dX5_wordOf_11 (sd_bipush (v := 19) (by decide) dX5_wordOf_89 (sd_iret (ty := .int) rfl (by decide) (by decide) dX5_wordOf_91)) (sd_iload_n (i := 3) rfl dX5_wordOf_14 (sd_bipush (v := 7) (by decide) dX5_wordOf_15 (sd_icmp_ge (tgt := 89) (by decide) dX5_wordOf_17 (sd_bipush (v := 19) (by decide) dX5_wordOf_89 (sd_iret (ty := .int) rfl (by decide) (by decide) dX5_wordOf_91)) (sd_iconst (v := 0) (by decide) dX5_wordOf_20 (sd_istore (i := 5) (by decide) dX5_wordOf_21 (Sd.go)))))))) : Sd l E YX5_wordOf (d + 1) 0 0 Q 0 0 7 (bX5_wordOf_7 l E d Q)) ls st h hB
def bX5_wordOf_23 (l : Launch) (E : Ev) (d : Nat) (Q : Option Value → Hp → Prop) : Kt := k_iload 5 (k_iload 3 (k_icmp_ge (Go l E YX5_wordOf (d + 1) 0 0 Q 0 0 57) (k_ldcS (k_iload 4 (k_push (.int 7) (k_imul (k_iload 5 (k_iadd (k_callT l E YJ0_charAt_5068e d 0 0 1 (k_aload 0 (k_iload 1 (k_iload 5 (k_iadd (k_iaload (k_icmp_ne (Go l E YX5_wordOf (d + 1) 0 0 Q 0 0 57) (k_iinc 5 1 (Go l E YX5_wordOf (d + 1) 0 0 Q 0 0 23)))))))))))))))))
set_option maxRecDepth 100000 in
set_option maxHeartbeats 4000000 in
theorem gX5_wordOf_23 {l : Launch} {E : Ev} {d : Nat} {Q : Option Value → Hp → Prop} {ls : Lv} {st : List Value} {h : Hp} (hB : bX5_wordOf_23 l E d Q ls st h) : Go l E YX5_wordOf (d + 1) 0 0 Q 0 0 23 ls st h :=
  (sd_iload (n := 5) dX5_wordOf_23 (sd_iload_n (i := 3) rfl dX5_wordOf_25 (sd_icmp_ge (tgt := 57) (by decide) dX5_wordOf_26 (Sd.go) (sd_ldcS rfl dX5_wordOf_29 (sd_iload (n := 4) dX5_wordOf_31 (sd_bipush (v := 7) (by decide) dX5_wordOf_33 (sd_imul dX5_wordOf_35 (sd_iload (n := 5) dX5_wordOf_36 (sd_iadd dX5_wordOf_38 (sd_callT (Y' := YJ0_charAt_5068e) (mc' := 0) (ms' := 0) (n := 1) mw_654 mw_655 mw_656 mw_111 mw_657 rfl (okmJ0_charAt_5068e) (by decide) (Nat.le_refl _) (by decide) (by decide) dX5_wordOf_39 (sd_aload_n (i := 0) rfl dX5_wordOf_42 (sd_iload_n (i := 1) rfl dX5_wordOf_43 (sd_iload (n := 5) dX5_wordOf_44 (sd_iadd dX5_wordOf_46 (sd_iaload dX5_wordOf_47 (sd_icmp_ne (tgt := 57) (by decide) dX5_wordOf_48 (Sd.go) (sd_iinc (i := 5) (v := 1) (by decide) (by decide) dX5_wordOf_51 (sd_goto (tgt := 23) (by decide) dX5_wordOf_54 (Sd.go)))))))))))))))))) : Sd l E YX5_wordOf (d + 1) 0 0 Q 0 0 23 (bX5_wordOf_23 l E d Q)) ls st h hB
def bX5_wordOf_57 (l : Launch) (E : Ev) (d : Nat) (Q : Option Value → Hp → Prop) : Kt := k_iload 5 (k_iload 3 (k_icmp_ne (k_iinc 4 1 (Go l E YX5_wordOf (d + 1) 0 0 Q 0 0 7)) (k_ldcS (k_iload 4 (k_push (.int 7) (k_imul (k_iload 3 (k_iadd (k_callT l E YJ0_charAt_5068e d 0 0 1 (k_push (.int 32) (k_icmp_ne (k_iinc 4 1 (Go l E YX5_wordOf (d + 1) 0 0 Q 0 0 7)) (k_iload 4 (k_iret .int Q)))))))))))))
set_option maxRecDepth 100000 in
set_option maxHeartbeats 4000000 in
theorem gX5_wordOf_57 {l : Launch} {E : Ev} {d : Nat} {Q : Option Value → Hp → Prop} {ls : Lv} {st : List Value} {h : Hp} (hB : bX5_wordOf_57 l E d Q ls st h) : Go l E YX5_wordOf (d + 1) 0 0 Q 0 0 57 ls st h :=
  (sd_iload (n := 5) dX5_wordOf_57 (sd_iload_n (i := 3) rfl dX5_wordOf_59 (sd_icmp_ne (tgt := 83) (by decide) dX5_wordOf_60 (sd_iinc (i := 4) (v := 1) (by decide) (by decide) dX5_wordOf_83 (sd_goto (tgt := 7) (by decide) dX5_wordOf_86 (Sd.go))) (sd_ldcS rfl dX5_wordOf_63 (sd_iload (n := 4) dX5_wordOf_65 (sd_bipush (v := 7) (by decide) dX5_wordOf_67 (sd_imul dX5_wordOf_69 (sd_iload_n (i := 3) rfl dX5_wordOf_70 (sd_iadd dX5_wordOf_71 (sd_callT (Y' := YJ0_charAt_5068e) (mc' := 0) (ms' := 0) (n := 1) mw_654 mw_655 mw_656 mw_111 mw_657 rfl (okmJ0_charAt_5068e) (by decide) (Nat.le_refl _) (by decide) (by decide) dX5_wordOf_72 (sd_bipush (v := 32) (by decide) dX5_wordOf_75 (sd_icmp_ne (tgt := 83) (by decide) dX5_wordOf_77 (sd_iinc (i := 4) (v := 1) (by decide) (by decide) dX5_wordOf_83 (sd_goto (tgt := 7) (by decide) dX5_wordOf_86 (Sd.go))) (sd_iload (n := 4) dX5_wordOf_80 (sd_iret (ty := .int) rfl (by decide) (by decide) dX5_wordOf_82))))))))))))) : Sd l E YX5_wordOf (d + 1) 0 0 Q 0 0 57 (bX5_wordOf_57 l E d Q)) ls st h hB
theorem eX5_wordOf {l : Launch} {E : Ev} {d : Nat} {Q : Option Value → Hp → Prop} {h : Hp} {x1 : Nat} {x2 : Int32} {x3 : Int32} (hk : Go l E YX5_wordOf d 0 0 Q 0 0 0 [some (.ref x1), some (.int x2), some (.int x3), none, none, none] [] h) : GoM l E YX5_wordOf d 0 0 [.ref x1, .int x2, .int x3] h Q := GoM.of (by decide +kernel) rfl (by simp [entA, YX5_wordOf]) hk
theorem dX5_sees_0 : decode cX5_sees 0 = .ok (.aload_n 0, 1) := by decide +kernel
theorem dX5_sees_1 : decode cX5_sees 1 = .ok (.getfield 9, 3) := by decide +kernel
theorem dX5_sees_4 : decode cX5_sees 4 = .ok (.aload_n 0, 1) := by decide +kernel
theorem dX5_sees_5 : decode cX5_sees 5 = .ok (.getfield 38, 3) := by decide +kernel
theorem dX5_sees_8 : decode cX5_sees 8 = .ok (.iaload, 1) := by decide +kernel
theorem dX5_sees_9 : decode cX5_sees 9 = .ok (.iload_n 1, 1) := by decide +kernel
theorem dX5_sees_10 : decode cX5_sees 10 = .ok (.if_icmp .ne 7, 3) := by decide +kernel
theorem dX5_sees_13 : decode cX5_sees 13 = .ok (.iconst 1, 1) := by decide +kernel
theorem dX5_sees_14 : decode cX5_sees 14 = .ok (.goto 4, 3) := by decide +kernel
theorem dX5_sees_17 : decode cX5_sees 17 = .ok (.iconst 0, 1) := by decide +kernel
theorem dX5_sees_18 : decode cX5_sees 18 = .ok (.ireturn, 1) := by decide +kernel
def bX5_sees_0 (l : Launch) (E : Ev) (d : Nat) (Q : Option Value → Hp → Prop) : Kt := k_aload 0 (k_getR 5 12 0 (k_aload 0 (k_getI 5 12 4 (k_iaload (k_iload 1 (k_icmp_ne (k_push (.int 0) (k_iret .boolean Q)) (k_push (.int 1) (k_iret .boolean Q))))))))
set_option maxRecDepth 100000 in
set_option maxHeartbeats 4000000 in
theorem gX5_sees_0 {l : Launch} {E : Ev} {d : Nat} {Q : Option Value → Hp → Prop} {ls : Lv} {st : List Value} {h : Hp} (hB : bX5_sees_0 l E d Q ls st h) : Go l E YX5_sees (d + 1) 0 0 Q 0 0 0 ls st h :=
  (sd_aload_n (i := 0) rfl dX5_sees_0 (sd_getR clsX5 (f := 0) (by decide) (fun _ _ _ => rfl) mw_222 dX5_sees_1 (sd_aload_n (i := 0) rfl dX5_sees_4 (sd_getI clsX5 (f := 4) (by decide) (fun _ _ _ => rfl) mw_226 dX5_sees_5 (sd_iaload dX5_sees_8 (sd_iload_n (i := 1) rfl dX5_sees_9 (sd_icmp_ne (tgt := 17) (by decide) dX5_sees_10 (sd_iconst (v := 0) (by decide) dX5_sees_17 (sd_iret (ty := .boolean) rfl (by decide) (by decide) dX5_sees_18)) (sd_iconst (v := 1) (by decide) dX5_sees_13 (sd_goto (tgt := 18) (by decide) dX5_sees_14 (sd_iret (ty := .boolean) rfl (by decide) (by decide) dX5_sees_18))))))))) : Sd l E YX5_sees (d + 1) 0 0 Q 0 0 0 (bX5_sees_0 l E d Q)) ls st h hB
theorem eX5_sees {l : Launch} {E : Ev} {d : Nat} {Q : Option Value → Hp → Prop} {h : Hp} {a0 : Nat} {x1 : Int32} (hk : Go l E YX5_sees d 0 0 Q 0 0 0 [some (.ref a0), some (.int x1)] [] h) : GoM l E YX5_sees d 0 0 [.ref a0, .int x1] h Q := GoM.of (by decide +kernel) rfl (by simp [entA, YX5_sees]) hk
theorem dX5_take_0 : decode cX5_take 0 = .ok (.aload_n 0, 1) := by decide +kernel
theorem dX5_take_1 : decode cX5_take 1 = .ok (.getfield 38, 3) := by decide +kernel
theorem dX5_take_4 : decode cX5_take 4 = .ok (.aload_n 0, 1) := by decide +kernel
theorem dX5_take_5 : decode cX5_take 5 = .ok (.getfield 72, 3) := by decide +kernel
theorem dX5_take_8 : decode cX5_take 8 = .ok (.iconst 1, 1) := by decide +kernel
theorem dX5_take_9 : decode cX5_take 9 = .ok (.isub, 1) := by decide +kernel
theorem dX5_take_10 : decode cX5_take 10 = .ok (.if_icmp .ge 13, 3) := by decide +kernel
theorem dX5_take_13 : decode cX5_take 13 = .ok (.aload_n 0, 1) := by decide +kernel
theorem dX5_take_14 : decode cX5_take 14 = .ok (.dup, 1) := by decide +kernel
theorem dX5_take_15 : decode cX5_take 15 = .ok (.getfield 38, 3) := by decide +kernel
theorem dX5_take_18 : decode cX5_take 18 = .ok (.iconst 1, 1) := by decide +kernel
theorem dX5_take_19 : decode cX5_take 19 = .ok (.iadd, 1) := by decide +kernel
theorem dX5_take_20 : decode cX5_take 20 = .ok (.putfield 38, 3) := by decide +kernel
theorem dX5_take_23 : decode cX5_take 23 = .ok (.return_, 1) := by decide +kernel
def bX5_take_0 (l : Launch) (E : Ev) (d : Nat) (Q : Option Value → Hp → Prop) : Kt := k_aload 0 (k_getI 5 12 4 (k_aload 0 (k_getI 5 12 3 (k_push (.int 1) (k_isub (k_icmp_ge (k_vret Q) (k_aload 0 (k_dup (k_getI 5 12 4 (k_push (.int 1) (k_iadd (k_putI 5 12 4 (k_vret Q)))))))))))))
set_option maxRecDepth 100000 in
set_option maxHeartbeats 4000000 in
theorem gX5_take_0 {l : Launch} {E : Ev} {d : Nat} {Q : Option Value → Hp → Prop} {ls : Lv} {st : List Value} {h : Hp} (hB : bX5_take_0 l E d Q ls st h) : Go l E YX5_take (d + 1) 0 0 Q 0 0 0 ls st h :=
  (sd_aload_n (i := 0) rfl dX5_take_0 (sd_getI clsX5 (f := 4) (by decide) (fun _ _ _ => rfl) mw_226 dX5_take_1 (sd_aload_n (i := 0) rfl dX5_take_4 (sd_getI clsX5 (f := 3) (by decide) (fun _ _ _ => rfl) mw_225 dX5_take_5 (sd_iconst (v := 1) (by decide) dX5_take_8 (sd_isub dX5_take_9 (sd_icmp_ge (tgt := 23) (by decide) dX5_take_10 (sd_vret rfl (by decide) (by decide) dX5_take_23) (sd_aload_n (i := 0) rfl dX5_take_13 (sd_dup dX5_take_14 (sd_getI clsX5 (f := 4) (by decide) (fun _ _ _ => rfl) mw_226 dX5_take_15 (sd_iconst (v := 1) (by decide) dX5_take_18 (sd_iadd dX5_take_19 (sd_putI clsX5 (f := 4) (by decide) (fun _ _ _ => rfl) rfl (Or.inl rfl) mw_226 dX5_take_20 (sd_vret rfl (by decide) (by decide) dX5_take_23))))))))))))) : Sd l E YX5_take (d + 1) 0 0 Q 0 0 0 (bX5_take_0 l E d Q)) ls st h hB
theorem eX5_take {l : Launch} {E : Ev} {d : Nat} {Q : Option Value → Hp → Prop} {h : Hp} {a0 : Nat} (hk : Go l E YX5_take d 0 0 Q 0 0 0 [some (.ref a0)] [] h) : GoM l E YX5_take d 0 0 [.ref a0] h Q := GoM.of (by decide +kernel) rfl (by simp [entA, YX5_take]) hk
theorem dX5_addStep_0 : decode cX5_addStep 0 = .ok (.aload_n 0, 1) := by decide +kernel
theorem dX5_addStep_1 : decode cX5_addStep 1 = .ok (.getfield 41, 3) := by decide +kernel
theorem dX5_addStep_4 : decode cX5_addStep 4 = .ok (.aload_n 0, 1) := by decide +kernel
theorem dX5_addStep_5 : decode cX5_addStep 5 = .ok (.getfield 21, 3) := by decide +kernel
theorem dX5_addStep_8 : decode cX5_addStep 8 = .ok (.arraylength, 1) := by decide +kernel
theorem dX5_addStep_9 : decode cX5_addStep 9 = .ok (.if_icmp .ge 28, 3) := by decide +kernel
theorem dX5_addStep_12 : decode cX5_addStep 12 = .ok (.aload_n 0, 1) := by decide +kernel
theorem dX5_addStep_13 : decode cX5_addStep 13 = .ok (.getfield 21, 3) := by decide +kernel
theorem dX5_addStep_16 : decode cX5_addStep 16 = .ok (.aload_n 0, 1) := by decide +kernel
theorem dX5_addStep_17 : decode cX5_addStep 17 = .ok (.getfield 41, 3) := by decide +kernel
theorem dX5_addStep_20 : decode cX5_addStep 20 = .ok (.iload_n 1, 1) := by decide +kernel
theorem dX5_addStep_21 : decode cX5_addStep 21 = .ok (.iload_n 2, 1) := by decide +kernel
theorem dX5_addStep_22 : decode cX5_addStep 22 = .ok (.bipush 8, 2) := by decide +kernel
theorem dX5_addStep_24 : decode cX5_addStep 24 = .ok (.ishl, 1) := by decide +kernel
theorem dX5_addStep_25 : decode cX5_addStep 25 = .ok (.ior, 1) := by decide +kernel
theorem dX5_addStep_26 : decode cX5_addStep 26 = .ok (.iastore, 1) := by decide +kernel
theorem dX5_addStep_27 : decode cX5_addStep 27 = .ok (.aload_n 0, 1) := by decide +kernel
theorem dX5_addStep_28 : decode cX5_addStep 28 = .ok (.dup, 1) := by decide +kernel
theorem dX5_addStep_29 : decode cX5_addStep 29 = .ok (.getfield 41, 3) := by decide +kernel
theorem dX5_addStep_32 : decode cX5_addStep 32 = .ok (.iconst 1, 1) := by decide +kernel
theorem dX5_addStep_33 : decode cX5_addStep 33 = .ok (.iadd, 1) := by decide +kernel
theorem dX5_addStep_34 : decode cX5_addStep 34 = .ok (.putfield 41, 3) := by decide +kernel
theorem dX5_addStep_37 : decode cX5_addStep 37 = .ok (.return_, 1) := by decide +kernel
def bX5_addStep_0 (l : Launch) (E : Ev) (d : Nat) (Q : Option Value → Hp → Prop) : Kt := k_aload 0 (k_getI 5 12 6 (k_aload 0 (k_getR 5 12 5 (k_alen (k_icmp_ge (k_vret Q) (k_aload 0 (k_getR 5 12 5 (k_aload 0 (k_getI 5 12 6 (k_iload 1 (k_iload 2 (k_push (.int 8) (k_ishl (k_ior (k_iastore (k_aload 0 (k_dup (k_getI 5 12 6 (k_push (.int 1) (k_iadd (k_putI 5 12 6 (k_vret Q))))))))))))))))))))))
set_option maxRecDepth 100000 in
set_option maxHeartbeats 4000000 in
theorem gX5_addStep_0 {l : Launch} {E : Ev} {d : Nat} {Q : Option Value → Hp → Prop} {ls : Lv} {st : List Value} {h : Hp} (hB : bX5_addStep_0 l E d Q ls st h) : Go l E YX5_addStep (d + 1) 0 0 Q 0 0 0 ls st h :=
  (sd_aload_n (i := 0) rfl dX5_addStep_0 (sd_getI clsX5 (f := 6) (by decide) (fun _ _ _ => rfl) mw_228 dX5_addStep_1 (sd_aload_n (i := 0) rfl dX5_addStep_4 (sd_getR clsX5 (f := 5) (by decide) (fun _ _ _ => rfl) mw_227 dX5_addStep_5 (sd_alen dX5_addStep_8 (sd_icmp_ge (tgt := 37) (by decide) dX5_addStep_9 (sd_vret rfl (by decide) (by decide) dX5_addStep_37) (sd_aload_n (i := 0) rfl dX5_addStep_12 (sd_getR clsX5 (f := 5) (by decide) (fun _ _ _ => rfl) mw_227 dX5_addStep_13 (sd_aload_n (i := 0) rfl dX5_addStep_16 (sd_getI clsX5 (f := 6) (by decide) (fun _ _ _ => rfl) mw_228 dX5_addStep_17 (sd_iload_n (i := 1) rfl dX5_addStep_20 (sd_iload_n (i := 2) rfl dX5_addStep_21 (sd_bipush (v := 8) (by decide) dX5_addStep_22 (sd_ishl dX5_addStep_24 (sd_ior dX5_addStep_25 (sd_iastore dX5_addStep_26 (sd_aload_n (i := 0) rfl dX5_addStep_27 (sd_dup dX5_addStep_28 (sd_getI clsX5 (f := 6) (by decide) (fun _ _ _ => rfl) mw_228 dX5_addStep_29 (sd_iconst (v := 1) (by decide) dX5_addStep_32 (sd_iadd dX5_addStep_33 (sd_putI clsX5 (f := 6) (by decide) (fun _ _ _ => rfl) rfl (Or.inl rfl) mw_228 dX5_addStep_34 (sd_vret rfl (by decide) (by decide) dX5_addStep_37)))))))))))))))))))))) : Sd l E YX5_addStep (d + 1) 0 0 Q 0 0 0 (bX5_addStep_0 l E d Q)) ls st h hB
theorem eX5_addStep {l : Launch} {E : Ev} {d : Nat} {Q : Option Value → Hp → Prop} {h : Hp} {a0 : Nat} {x1 : Int32} {x2 : Int32} (hk : Go l E YX5_addStep d 0 0 Q 0 0 0 [some (.ref a0), some (.int x1), some (.int x2)] [] h) : GoM l E YX5_addStep d 0 0 [.ref a0, .int x1, .int x2] h Q := GoM.of (by decide +kernel) rfl (by simp [entA, YX5_addStep]) hk
theorem dX5_readClause_0 : decode cX5_readClause 0 = .ok (.aload_n 0, 1) := by decide +kernel
theorem dX5_readClause_1 : decode cX5_readClause 1 = .ok (.getfield 9, 3) := by decide +kernel
theorem dX5_readClause_4 : decode cX5_readClause 4 = .ok (.aload_n 0, 1) := by decide +kernel
theorem dX5_readClause_5 : decode cX5_readClause 5 = .ok (.getfield 38, 3) := by decide +kernel
theorem dX5_readClause_8 : decode cX5_readClause 8 = .ok (.iaload, 1) := by decide +kernel
theorem dX5_readClause_9 : decode cX5_readClause 9 = .ok (.istore_n 1, 1) := by decide +kernel
theorem dX5_readClause_10 : decode cX5_readClause 10 = .ok (.iload_n 1, 1) := by decide +kernel
theorem dX5_readClause_11 : decode cX5_readClause 11 = .ok (.ifCond .lt 8, 3) := by decide +kernel
theorem dX5_readClause_14 : decode cX5_readClause 14 = .ok (.iload_n 1, 1) := by decide +kernel
theorem dX5_readClause_15 : decode cX5_readClause 15 = .ok (.iconst 3, 1) := by decide +kernel
theorem dX5_readClause_16 : decode cX5_readClause 16 = .ok (.if_icmp .le 5, 3) := by decide +kernel
theorem dX5_readClause_19 : decode cX5_readClause 19 = .ok (.iconst 0, 1) := by decide +kernel
theorem dX5_readClause_20 : decode cX5_readClause 20 = .ok (.ireturn, 1) := by decide +kernel
theorem dX5_readClause_21 : decode cX5_readClause 21 = .ok (.aload_n 0, 1) := by decide +kernel
theorem dX5_readClause_22 : decode cX5_readClause 22 = .ok (.getfield 24, 3) := by decide +kernel
theorem dX5_readClause_25 : decode cX5_readClause 25 = .ok (.aload_n 0, 1) := by decide +kernel
theorem dX5_readClause_26 : decode cX5_readClause 26 = .ok (.getfield 44, 3) := by decide +kernel
theorem dX5_readClause_29 : decode cX5_readClause 29 = .ok (.iload_n 1, 1) := by decide +kernel
theorem dX5_readClause_30 : decode cX5_readClause 30 = .ok (.iastore, 1) := by decide +kernel
theorem dX5_readClause_31 : decode cX5_readClause 31 = .ok (.aload_n 0, 1) := by decide +kernel
theorem dX5_readClause_32 : decode cX5_readClause 32 = .ok (.getfield 27, 3) := by decide +kernel
theorem dX5_readClause_35 : decode cX5_readClause 35 = .ok (.aload_n 0, 1) := by decide +kernel
theorem dX5_readClause_36 : decode cX5_readClause 36 = .ok (.getfield 44, 3) := by decide +kernel
theorem dX5_readClause_39 : decode cX5_readClause 39 = .ok (.iconst 2, 1) := by decide +kernel
theorem dX5_readClause_40 : decode cX5_readClause 40 = .ok (.imul, 1) := by decide +kernel
theorem dX5_readClause_41 : decode cX5_readClause 41 = .ok (.aload_n 0, 1) := by decide +kernel
theorem dX5_readClause_42 : decode cX5_readClause 42 = .ok (.getfield 41, 3) := by decide +kernel
theorem dX5_readClause_45 : decode cX5_readClause 45 = .ok (.iastore, 1) := by decide +kernel
theorem dX5_readClause_46 : decode cX5_readClause 46 = .ok (.aload_n 0, 1) := by decide +kernel
theorem dX5_readClause_47 : decode cX5_readClause 47 = .ok (.invokevirtual 58, 3) := by decide +kernel
theorem dX5_readClause_50 : decode cX5_readClause 50 = .ok (.iload_n 1, 1) := by decide +kernel
theorem dX5_readClause_51 : decode cX5_readClause 51 = .ok (.iconst 1, 1) := by decide +kernel
theorem dX5_readClause_52 : decode cX5_readClause 52 = .ok (.if_icmp .gt 14, 3) := by decide +kernel
theorem dX5_readClause_55 : decode cX5_readClause 55 = .ok (.aload_n 0, 1) := by decide +kernel
theorem dX5_readClause_56 : decode cX5_readClause 56 = .ok (.iconst 0, 1) := by decide +kernel
theorem dX5_readClause_57 : decode cX5_readClause 57 = .ok (.iconst 0, 1) := by decide +kernel
theorem dX5_readClause_58 : decode cX5_readClause 58 = .ok (.invokevirtual 104, 3) := by decide +kernel
theorem dX5_readClause_61 : decode cX5_readClause 61 = .ok (.ifCond .ne 5, 3) := by decide +kernel
theorem dX5_readClause_64 : decode cX5_readClause 64 = .ok (.iconst 0, 1) := by decide +kernel
theorem dX5_readClause_65 : decode cX5_readClause 65 = .ok (.ireturn, 1) := by decide +kernel
theorem dX5_readClause_66 : decode cX5_readClause 66 = .ok (.aload_n 0, 1) := by decide +kernel
theorem dX5_readClause_67 : decode cX5_readClause 67 = .ok (.getfield 27, 3) := by decide +kernel
theorem dX5_readClause_70 : decode cX5_readClause 70 = .ok (.aload_n 0, 1) := by decide +kernel
theorem dX5_readClause_71 : decode cX5_readClause 71 = .ok (.getfield 44, 3) := by decide +kernel
theorem dX5_readClause_74 : decode cX5_readClause 74 = .ok (.iconst 2, 1) := by decide +kernel
theorem dX5_readClause_75 : decode cX5_readClause 75 = .ok (.imul, 1) := by decide +kernel
theorem dX5_readClause_76 : decode cX5_readClause 76 = .ok (.iconst 1, 1) := by decide +kernel
theorem dX5_readClause_77 : decode cX5_readClause 77 = .ok (.iadd, 1) := by decide +kernel
theorem dX5_readClause_78 : decode cX5_readClause 78 = .ok (.aload_n 0, 1) := by decide +kernel
theorem dX5_readClause_79 : decode cX5_readClause 79 = .ok (.getfield 41, 3) := by decide +kernel
theorem dX5_readClause_82 : decode cX5_readClause 82 = .ok (.iastore, 1) := by decide +kernel
theorem dX5_readClause_83 : decode cX5_readClause 83 = .ok (.aload_n 0, 1) := by decide +kernel
theorem dX5_readClause_84 : decode cX5_readClause 84 = .ok (.iconst 4, 1) := by decide +kernel
theorem dX5_readClause_85 : decode cX5_readClause 85 = .ok (.invokevirtual 54, 3) := by decide +kernel
theorem dX5_readClause_88 : decode cX5_readClause 88 = .ok (.ifCond .ne 5, 3) := by decide +kernel
theorem dX5_readClause_91 : decode cX5_readClause 91 = .ok (.iconst 1, 1) := by decide +kernel
theorem dX5_readClause_92 : decode cX5_readClause 92 = .ok (.ireturn, 1) := by decide +kernel
theorem dX5_readClause_93 : decode cX5_readClause 93 = .ok (.aload_n 0, 1) := by decide +kernel
theorem dX5_readClause_94 : decode cX5_readClause 94 = .ok (.invokevirtual 58, 3) := by decide +kernel
theorem dX5_readClause_97 : decode cX5_readClause 97 = .ok (.aload_n 0, 1) := by decide +kernel
theorem dX5_readClause_98 : decode cX5_readClause 98 = .ok (.iconst 0, 1) := by decide +kernel
theorem dX5_readClause_99 : decode cX5_readClause 99 = .ok (.iconst 0, 1) := by decide +kernel
theorem dX5_readClause_100 : decode cX5_readClause 100 = .ok (.invokevirtual 108, 3) := by decide +kernel
theorem dX5_readClause_103 : decode cX5_readClause 103 = .ok (.ireturn, 1) := by decide +kernel
def bX5_readClause_0 (l : Launch) (E : Ev) (d : Nat) (Q : Option Value → Hp → Prop) : Kt := k_aload 0 (k_getR 5 12 0 (k_aload 0 (k_getI 5 12 4 (k_iaload (k_istore 1 (k_iload 1 (k_if_lt (k_push (.int 0) (k_iret .boolean Q)) (k_iload 1 (k_push (.int 3) (k_icmp_le (k_aload 0 (k_getR 5 12 7 (k_aload 0 (k_getI 5 12 9 (k_iload 1 (k_iastore (k_aload 0 (k_getR 5 12 8 (k_aload 0 (k_getI 5 12 9 (k_push (.int 2) (k_imul (k_aload 0 (k_getI 5 12 6 (k_iastore (k_aload 0 (k_callV l E 5 12 YX5_take d 0 0 0 (k_iload 1 (k_push (.int 1) (k_icmp_gt (Go l E YX5_readClause (d + 1) 0 0 Q 0 0 66) (k_aload 0 (k_push (.int 0) (k_push (.int 0) (k_callV l E 5 12 YX5_readSum d 0 0 2 (k_if_ne (Go l E YX5_readClause (d + 1) 0 0 Q 0 0 66) (k_push (.int 0) (k_iret .boolean Q))))))))))))))))))))))))))) (k_push (.int 0) (k_iret .boolean Q))))))))))))
set_option maxRecDepth 100000 in
set_option maxHeartbeats 4000000 in
theorem gX5_readClause_0 {l : Launch} {E : Ev} {d : Nat} {Q : Option Value → Hp → Prop} {ls : Lv} {st : List Value} {h : Hp} (hB : bX5_readClause_0 l E d Q ls st h) : Go l E YX5_readClause (d + 1) 0 0 Q 0 0 0 ls st h :=
  (sd_aload_n (i := 0) rfl dX5_readClause_0 (sd_getR clsX5 (f := 0) (by decide) (fun _ _ _ => rfl) mw_222 dX5_readClause_1 (sd_aload_n (i := 0) rfl dX5_readClause_4 (sd_getI clsX5 (f := 4) (by decide) (fun _ _ _ => rfl) mw_226 dX5_readClause_5 (sd_iaload dX5_readClause_8 (sd_istore_n (i := 1) rfl (by decide) dX5_readClause_9 (sd_iload_n (i := 1) rfl dX5_readClause_10 (sd_if_lt (tgt := 19) (by decide) dX5_readClause_11 (sd_iconst (v := 0) (by decide) dX5_readClause_19 (sd_iret (ty := .boolean) rfl (by decide) (by decide) dX5_readClause_20)) (sd_iload_n (i := 1) rfl dX5_readClause_14 (sd_iconst (v := 3) (by decide) dX5_readClause_15 (sd_icmp_le (tgt := 21) (by decide) dX5_readClause_16 (sd_aload_n (i := 0) rfl dX5_readClause_21 (sd_getR clsX5 (f := 7) (by decide) (fun _ _ _ => rfl) mw_229 dX5_readClause_22 (sd_aload_n (i := 0) rfl dX5_readClause_25 (sd_getI clsX5 (f := 9) (by decide) (fun _ _ _ => rfl) mw_231 dX5_readClause_26 (sd_iload_n (i := 1) rfl dX5_readClause_29 (sd_iastore dX5_readClause_30 (sd_aload_n (i := 0) rfl dX5_readClause_31 (sd_getR clsX5 (f := 8) (by decide) (fun _ _ _ => rfl) mw_230 dX5_readClause_32 (sd_aload_n (i := 0) rfl dX5_readClause_35 (sd_getI clsX5 (f := 9) (by decide) (fun _ _ _ => rfl) mw_231 dX5_readClause_36 (sd_iconst (v := 2) (by decide) dX5_readClause_39 (sd_imul dX5_readClause_40 (sd_aload_n (i := 0) rfl dX5_readClause_41 (sd_getI clsX5 (f := 6) (by decide) (fun _ _ _ => rfl) mw_228 dX5_readClause_42 (sd_iastore dX5_readClause_45 (sd_aload_n (i := 0) rfl dX5_readClause_46 (sd_callV (Y' := YX5_take) (mc' := 0) (ms' := 0) (n := 0) clsX5.1 mw_698 mw_700 mw_7 mw_102 mw_701 rfl (okmX5_take) (by decide) (Nat.le_refl _) (by decide) (by decide) dX5_readClause_47 (sd_iload_n (i := 1) rfl dX5_readClause_50 (sd_iconst (v := 1) (by decide) dX5_readClause_51 (sd_icmp_gt (tgt := 66) (by decide) dX5_readClause_52 (Sd.go) (sd_aload_n (i := 0) rfl dX5_readClause_55 (sd_iconst (v := 0) (by decide) dX5_readClause_56 (sd_iconst (v := 0) (by decide) dX5_readClause_57 (sd_callV (Y' := YX5_readSum) (mc' := 0) (ms' := 0) (n := 2) clsX5.1 mw_702 mw_704 mw_8 mw_102 mw_705 rfl (okmX5_readSum) (by decide) (Nat.le_refl _) (by decide) (by decide) dX5_readClause_58 (sd_if_ne (tgt := 66) (by decide) dX5_readClause_61 (Sd.go) (sd_iconst (v := 0) (by decide) dX5_readClause_64 (sd_iret (ty := .boolean) rfl (by decide) (by decide) dX5_readClause_65))))))))))))))))))))))))))) (sd_iconst (v := 0) (by decide) dX5_readClause_19 (sd_iret (ty := .boolean) rfl (by decide) (by decide) dX5_readClause_20)))))))))))) : Sd l E YX5_readClause (d + 1) 0 0 Q 0 0 0 (bX5_readClause_0 l E d Q)) ls st h hB
def bX5_readClause_66 (l : Launch) (E : Ev) (d : Nat) (Q : Option Value → Hp → Prop) : Kt := k_aload 0 (k_getR 5 12 8 (k_aload 0 (k_getI 5 12 9 (k_push (.int 2) (k_imul (k_push (.int 1) (k_iadd (k_aload 0 (k_getI 5 12 6 (k_iastore (k_aload 0 (k_push (.int 4) (k_callV l E 5 12 YX5_sees d 0 0 1 (k_if_ne (k_aload 0 (k_callV l E 5 12 YX5_take d 0 0 0 (k_aload 0 (k_push (.int 0) (k_push (.int 0) (k_callV l E 5 12 YX5_readTest d 0 0 2 (k_iret .boolean Q))))))) (k_push (.int 1) (k_iret .boolean Q))))))))))))))))
set_option maxRecDepth 100000 in
set_option maxHeartbeats 4000000 in
theorem gX5_readClause_66 {l : Launch} {E : Ev} {d : Nat} {Q : Option Value → Hp → Prop} {ls : Lv} {st : List Value} {h : Hp} (hB : bX5_readClause_66 l E d Q ls st h) : Go l E YX5_readClause (d + 1) 0 0 Q 0 0 66 ls st h :=
  (sd_aload_n (i := 0) rfl dX5_readClause_66 (sd_getR clsX5 (f := 8) (by decide) (fun _ _ _ => rfl) mw_230 dX5_readClause_67 (sd_aload_n (i := 0) rfl dX5_readClause_70 (sd_getI clsX5 (f := 9) (by decide) (fun _ _ _ => rfl) mw_231 dX5_readClause_71 (sd_iconst (v := 2) (by decide) dX5_readClause_74 (sd_imul dX5_readClause_75 (sd_iconst (v := 1) (by decide) dX5_readClause_76 (sd_iadd dX5_readClause_77 (sd_aload_n (i := 0) rfl dX5_readClause_78 (sd_getI clsX5 (f := 6) (by decide) (fun _ _ _ => rfl) mw_228 dX5_readClause_79 (sd_iastore dX5_readClause_82 (sd_aload_n (i := 0) rfl dX5_readClause_83 (sd_iconst (v := 4) (by decide) dX5_readClause_84 (sd_callV (Y' := YX5_sees) (mc' := 0) (ms' := 0) (n := 1) clsX5.1 mw_710 mw_712 mw_10 mw_102 mw_713 rfl (okmX5_sees) (by decide) (Nat.le_refl _) (by decide) (by decide) dX5_readClause_85 (sd_if_ne (tgt := 93) (by decide) dX5_readClause_88 (sd_aload_n (i := 0) rfl dX5_readClause_93 (sd_callV (Y' := YX5_take) (mc' := 0) (ms' := 0) (n := 0) clsX5.1 mw_698 mw_700 mw_7 mw_102 mw_701 rfl (okmX5_take) (by decide) (Nat.le_refl _) (by decide) (by decide) dX5_readClause_94 (sd_aload_n (i := 0) rfl dX5_readClause_97 (sd_iconst (v := 0) (by decide) dX5_readClause_98 (sd_iconst (v := 0) (by decide) dX5_readClause_99 (sd_callV (Y' := YX5_readTest) (mc' := 0) (ms' := 0) (n := 2) clsX5.1 mw_718 mw_720 mw_12 mw_102 mw_721 rfl (okmX5_readTest) (by decide) (Nat.le_refl _) (by decide) (by decide) dX5_readClause_100 (sd_iret (ty := .boolean) rfl (by decide) (by decide) dX5_readClause_103))))))) (sd_iconst (v := 1) (by decide) dX5_readClause_91 (sd_iret (ty := .boolean) rfl (by decide) (by decide) dX5_readClause_92)))))))))))))))) : Sd l E YX5_readClause (d + 1) 0 0 Q 0 0 66 (bX5_readClause_66 l E d Q)) ls st h hB
theorem eX5_readClause {l : Launch} {E : Ev} {d : Nat} {Q : Option Value → Hp → Prop} {h : Hp} {a0 : Nat} (hk : Go l E YX5_readClause d 0 0 Q 0 0 0 [some (.ref a0), none] [] h) : GoM l E YX5_readClause d 0 0 [.ref a0] h Q := GoM.of (by decide +kernel) rfl (by simp [entA, YX5_readClause]) hk
theorem dX5_readTest_0 : decode cX5_readTest 0 = .ok (.iload_n 2, 1) := by decide +kernel
theorem dX5_readTest_1 : decode cX5_readTest 1 = .ok (.ifCond .eq 14, 3) := by decide +kernel
theorem dX5_readTest_4 : decode cX5_readTest 4 = .ok (.aload_n 0, 1) := by decide +kernel
theorem dX5_readTest_5 : decode cX5_readTest 5 = .ok (.iload_n 1, 1) := by decide +kernel
theorem dX5_readTest_6 : decode cX5_readTest 6 = .ok (.invokevirtual 111, 3) := by decide +kernel
theorem dX5_readTest_9 : decode cX5_readTest 9 = .ok (.ifCond .eq 15, 3) := by decide +kernel
theorem dX5_readTest_12 : decode cX5_readTest 12 = .ok (.goto 14, 3) := by decide +kernel
theorem dX5_readTest_15 : decode cX5_readTest 15 = .ok (.aload_n 0, 1) := by decide +kernel
theorem dX5_readTest_16 : decode cX5_readTest 16 = .ok (.iload_n 1, 1) := by decide +kernel
theorem dX5_readTest_17 : decode cX5_readTest 17 = .ok (.iconst 1, 1) := by decide +kernel
theorem dX5_readTest_18 : decode cX5_readTest 18 = .ok (.invokevirtual 108, 3) := by decide +kernel
theorem dX5_readTest_21 : decode cX5_readTest 21 = .ok (.ifCond .ne 5, 3) := by decide +kernel
theorem dX5_readTest_24 : decode cX5_readTest 24 = .ok (.iconst 0, 1) := by decide +kernel
theorem dX5_readTest_25 : decode cX5_readTest 25 = .ok (.ireturn, 1) := by decide +kernel
theorem dX5_readTest_26 : decode cX5_readTest 26 = .ok (.iconst 0, 1) := by decide +kernel
theorem dX5_readTest_27 : decode cX5_readTest 27 = .ok (.istore_n 3, 1) := by decide +kernel
theorem dX5_readTest_28 : decode cX5_readTest 28 = .ok (.iload_n 3, 1) := by decide +kernel
theorem dX5_readTest_29 : decode cX5_readTest 29 = .ok (.sipush 400, 3) := by decide +kernel
theorem dX5_readTest_32 : decode cX5_readTest 32 = .ok (.if_icmp .ge 103, 3) := by decide +kernel
theorem dX5_readTest_35 : decode cX5_readTest 35 = .ok (.aload_n 0, 1) := by decide +kernel
theorem dX5_readTest_36 : decode cX5_readTest 36 = .ok (.iload_n 2, 1) := by decide +kernel
theorem dX5_readTest_37 : decode cX5_readTest 37 = .ok (.ifCond .eq 8, 3) := by decide +kernel
theorem dX5_readTest_40 : decode cX5_readTest 40 = .ok (.bipush 6, 2) := by decide +kernel
theorem dX5_readTest_42 : decode cX5_readTest 42 = .ok (.goto 4, 3) := by decide +kernel
theorem dX5_readTest_45 : decode cX5_readTest 45 = .ok (.iconst 5, 1) := by decide +kernel
theorem dX5_readTest_46 : decode cX5_readTest 46 = .ok (.invokevirtual 54, 3) := by decide +kernel
theorem dX5_readTest_49 : decode cX5_readTest 49 = .ok (.ifCond .eq 86, 3) := by decide +kernel
theorem dX5_readTest_52 : decode cX5_readTest 52 = .ok (.aload_n 0, 1) := by decide +kernel
theorem dX5_readTest_53 : decode cX5_readTest 53 = .ok (.invokevirtual 58, 3) := by decide +kernel
theorem dX5_readTest_56 : decode cX5_readTest 56 = .ok (.aload_n 0, 1) := by decide +kernel
theorem dX5_readTest_57 : decode cX5_readTest 57 = .ok (.getfield 41, 3) := by decide +kernel
theorem dX5_readTest_60 : decode cX5_readTest 60 = .ok (.istore 4, 2) := by decide +kernel
theorem dX5_readTest_62 : decode cX5_readTest 62 = .ok (.aload_n 0, 1) := by decide +kernel
theorem dX5_readTest_63 : decode cX5_readTest 63 = .ok (.iload_n 2, 1) := by decide +kernel
theorem dX5_readTest_64 : decode cX5_readTest 64 = .ok (.ifCond .eq 7, 3) := by decide +kernel
theorem dX5_readTest_67 : decode cX5_readTest 67 = .ok (.iconst 4, 1) := by decide +kernel
theorem dX5_readTest_68 : decode cX5_readTest 68 = .ok (.goto 4, 3) := by decide +kernel
theorem dX5_readTest_71 : decode cX5_readTest 71 = .ok (.iconst 3, 1) := by decide +kernel
theorem dX5_readTest_72 : decode cX5_readTest 72 = .ok (.iconst 0, 1) := by decide +kernel
theorem dX5_readTest_73 : decode cX5_readTest 73 = .ok (.invokevirtual 114, 3) := by decide +kernel
theorem dX5_readTest_76 : decode cX5_readTest 76 = .ok (.iload_n 2, 1) := by decide +kernel
theorem dX5_readTest_77 : decode cX5_readTest 77 = .ok (.ifCond .eq 14, 3) := by decide +kernel
theorem dX5_readTest_80 : decode cX5_readTest 80 = .ok (.aload_n 0, 1) := by decide +kernel
theorem dX5_readTest_81 : decode cX5_readTest 81 = .ok (.iload_n 1, 1) := by decide +kernel
theorem dX5_readTest_82 : decode cX5_readTest 82 = .ok (.invokevirtual 111, 3) := by decide +kernel
theorem dX5_readTest_85 : decode cX5_readTest 85 = .ok (.ifCond .eq 15, 3) := by decide +kernel
theorem dX5_readTest_88 : decode cX5_readTest 88 = .ok (.goto 14, 3) := by decide +kernel
theorem dX5_readTest_91 : decode cX5_readTest 91 = .ok (.aload_n 0, 1) := by decide +kernel
theorem dX5_readTest_92 : decode cX5_readTest 92 = .ok (.iload_n 1, 1) := by decide +kernel
theorem dX5_readTest_93 : decode cX5_readTest 93 = .ok (.iconst 1, 1) := by decide +kernel
theorem dX5_readTest_94 : decode cX5_readTest 94 = .ok (.invokevirtual 108, 3) := by decide +kernel
theorem dX5_readTest_97 : decode cX5_readTest 97 = .ok (.ifCond .ne 5, 3) := by decide +kernel
theorem dX5_readTest_100 : decode cX5_readTest 100 = .ok (.iconst 0, 1) := by decide +kernel
theorem dX5_readTest_101 : decode cX5_readTest 101 = .ok (.ireturn, 1) := by decide +kernel
theorem dX5_readTest_102 : decode cX5_readTest 102 = .ok (.iload 4, 2) := by decide +kernel
theorem dX5_readTest_104 : decode cX5_readTest 104 = .ok (.aload_n 0, 1) := by decide +kernel
theorem dX5_readTest_105 : decode cX5_readTest 105 = .ok (.getfield 21, 3) := by decide +kernel
theorem dX5_readTest_108 : decode cX5_readTest 108 = .ok (.arraylength, 1) := by decide +kernel
theorem dX5_readTest_109 : decode cX5_readTest 109 = .ok (.if_icmp .ge 20, 3) := by decide +kernel
theorem dX5_readTest_112 : decode cX5_readTest 112 = .ok (.aload_n 0, 1) := by decide +kernel
theorem dX5_readTest_113 : decode cX5_readTest 113 = .ok (.getfield 21, 3) := by decide +kernel
theorem dX5_readTest_116 : decode cX5_readTest 116 = .ok (.iload 4, 2) := by decide +kernel
theorem dX5_readTest_118 : decode cX5_readTest 118 = .ok (.dup2, 1) := by decide +kernel
theorem dX5_readTest_119 : decode cX5_readTest 119 = .ok (.iaload, 1) := by decide +kernel
theorem dX5_readTest_120 : decode cX5_readTest 120 = .ok (.aload_n 0, 1) := by decide +kernel
theorem dX5_readTest_121 : decode cX5_readTest 121 = .ok (.getfield 41, 3) := by decide +kernel
theorem dX5_readTest_124 : decode cX5_readTest 124 = .ok (.bipush 8, 2) := by decide +kernel
theorem dX5_readTest_126 : decode cX5_readTest 126 = .ok (.ishl, 1) := by decide +kernel
theorem dX5_readTest_127 : decode cX5_readTest 127 = .ok (.ior, 1) := by decide +kernel
theorem dX5_readTest_128 : decode cX5_readTest 128 = .ok (.iastore, 1) := by decide +kernel
theorem dX5_readTest_129 : decode cX5_readTest 129 = .ok (.iinc 3 1, 3) := by decide +kernel
theorem dX5_readTest_132 : decode cX5_readTest 132 = .ok (.goto (-104), 3) := by decide +kernel
theorem dX5_readTest_135 : decode cX5_readTest 135 = .ok (.iconst 1, 1) := by decide +kernel
theorem dX5_readTest_136 : decode cX5_readTest 136 = .ok (.ireturn, 1) := by decide +kernel
def bX5_readTest_0 (l : Launch) (E : Ev) (d : Nat) (Q : Option Value → Hp → Prop) : Kt := k_iload 2 (k_if_eq (k_aload 0 (k_iload 1 (k_push (.int 1) (k_callV l E 5 12 YX5_readTest d 0 0 2 (k_if_ne (k_push (.int 0) (k_istore 3 (Go l E YX5_readTest (d + 1) 0 0 Q 0 0 28))) (k_push (.int 0) (k_iret .boolean Q))))))) (k_aload 0 (k_iload 1 (k_callV l E 5 12 YX5_readPlain d 0 0 1 (k_if_eq (k_push (.int 0) (k_iret .boolean Q)) (k_push (.int 0) (k_istore 3 (Go l E YX5_readTest (d + 1) 0 0 Q 0 0 28))))))))
set_option maxRecDepth 100000 in
set_option maxHeartbeats 4000000 in
theorem gX5_readTest_0 {l : Launch} {E : Ev} {d : Nat} {Q : Option Value → Hp → Prop} {ls : Lv} {st : List Value} {h : Hp} (hB : bX5_readTest_0 l E d Q ls st h) : Go l E YX5_readTest (d + 1) 0 0 Q 0 0 0 ls st h :=
  (sd_iload_n (i := 2) rfl dX5_readTest_0 (sd_if_eq (tgt := 15) (by decide) dX5_readTest_1 (sd_aload_n (i := 0) rfl dX5_readTest_15 (sd_iload_n (i := 1) rfl dX5_readTest_16 (sd_iconst (v := 1) (by decide) dX5_readTest_17 (sd_callV (Y' := YX5_readTest) (mc' := 0) (ms' := 0) (n := 2) clsX5.1 mw_718 mw_720 mw_12 mw_102 mw_721 rfl (okmX5_readTest) (by decide) (Nat.le_refl _) (by decide) (by decide) dX5_readTest_18 (sd_if_ne (tgt := 26) (by decide) dX5_readTest_21 (sd_iconst (v := 0) (by decide) dX5_readTest_26 (sd_istore_n (i := 3) rfl (by decide) dX5_readTest_27 (Sd.go))) (sd_iconst (v := 0) (by decide) dX5_readTest_24 (sd_iret (ty := .boolean) rfl (by decide) (by decide) dX5_readTest_25))))))) (sd_aload_n (i := 0) rfl dX5_readTest_4 (sd_iload_n (i := 1) rfl dX5_readTest_5 (sd_callV (Y' := YX5_readPlain) (mc' := 0) (ms' := 0) (n := 1) clsX5.1 mw_722 mw_724 mw_13 mw_102 mw_725 rfl (okmX5_readPlain) (by decide) (Nat.le_refl _) (by decide) (by decide) dX5_readTest_6 (sd_if_eq (tgt := 24) (by decide) dX5_readTest_9 (sd_iconst (v := 0) (by decide) dX5_readTest_24 (sd_iret (ty := .boolean) rfl (by decide) (by decide) dX5_readTest_25)) (sd_goto (tgt := 26) (by decide) dX5_readTest_12 (sd_iconst (v := 0) (by decide) dX5_readTest_26 (sd_istore_n (i := 3) rfl (by decide) dX5_readTest_27 (Sd.go))))))))) : Sd l E YX5_readTest (d + 1) 0 0 Q 0 0 0 (bX5_readTest_0 l E d Q)) ls st h hB
def bX5_readTest_28 (l : Launch) (E : Ev) (d : Nat) (Q : Option Value → Hp → Prop) : Kt := k_iload 3 (k_push (.int 400) (k_icmp_ge (k_push (.int 1) (k_iret .boolean Q)) (k_aload 0 (k_iload 2 (k_if_eq (k_push (.int 5) (Go l E YX5_readTest (d + 1) 0 0 Q 0 0 46)) (k_push (.int 6) (Go l E YX5_readTest (d + 1) 0 0 Q 0 0 46)))))))
set_option maxRecDepth 100000 in
set_option maxHeartbeats 4000000 in
theorem gX5_readTest_28 {l : Launch} {E : Ev} {d : Nat} {Q : Option Value → Hp → Prop} {ls : Lv} {st : List Value} {h : Hp} (hB : bX5_readTest_28 l E d Q ls st h) : Go l E YX5_readTest (d + 1) 0 0 Q 0 0 28 ls st h :=
  (sd_iload_n (i := 3) rfl dX5_readTest_28 (sd_sipush (v := 400) (by decide) dX5_readTest_29 (sd_icmp_ge (tgt := 135) (by decide) dX5_readTest_32 (sd_iconst (v := 1) (by decide) dX5_readTest_135 (sd_iret (ty := .boolean) rfl (by decide) (by decide) dX5_readTest_136)) (sd_aload_n (i := 0) rfl dX5_readTest_35 (sd_iload_n (i := 2) rfl dX5_readTest_36 (sd_if_eq (tgt := 45) (by decide) dX5_readTest_37 (sd_iconst (v := 5) (by decide) dX5_readTest_45 (Sd.go)) (sd_bipush (v := 6) (by decide) dX5_readTest_40 (sd_goto (tgt := 46) (by decide) dX5_readTest_42 (Sd.go)))))))) : Sd l E YX5_readTest (d + 1) 0 0 Q 0 0 28 (bX5_readTest_28 l E d Q)) ls st h hB
def bX5_readTest_46 (l : Launch) (E : Ev) (d : Nat) (Q : Option Value → Hp → Prop) : Kt := k_callV l E 5 12 YX5_sees d 0 0 1 (k_if_eq (k_push (.int 1) (k_iret .boolean Q)) (k_aload 0 (k_callV l E 5 12 YX5_take d 0 0 0 (k_aload 0 (k_getI 5 12 6 (k_istore 4 (k_aload 0 (k_iload 2 (k_if_eq (k_push (.int 3) (Go l E YX5_readTest (d + 1) 0 0 Q 0 0 72)) (k_push (.int 4) (Go l E YX5_readTest (d + 1) 0 0 Q 0 0 72)))))))))))
set_option maxRecDepth 100000 in
set_option maxHeartbeats 4000000 in
theorem gX5_readTest_46 {l : Launch} {E : Ev} {d : Nat} {Q : Option Value → Hp → Prop} {ls : Lv} {st : List Value} {h : Hp} (hB : bX5_readTest_46 l E d Q ls st h) : Go l E YX5_readTest (d + 1) 0 0 Q 0 0 46 ls st h :=
  (sd_callV (Y' := YX5_sees) (mc' := 0) (ms' := 0) (n := 1) clsX5.1 mw_710 mw_712 mw_10 mw_102 mw_713 rfl (okmX5_sees) (by decide) (Nat.le_refl _) (by decide) (by decide) dX5_readTest_46 (sd_if_eq (tgt := 135) (by decide) dX5_readTest_49 (sd_iconst (v := 1) (by decide) dX5_readTest_135 (sd_iret (ty := .boolean) rfl (by decide) (by decide) dX5_readTest_136)) (sd_aload_n (i := 0) rfl dX5_readTest_52 (sd_callV (Y' := YX5_take) (mc' := 0) (ms' := 0) (n := 0) clsX5.1 mw_698 mw_700 mw_7 mw_102 mw_701 rfl (okmX5_take) (by decide) (Nat.le_refl _) (by decide) (by decide) dX5_readTest_53 (sd_aload_n (i := 0) rfl dX5_readTest_56 (sd_getI clsX5 (f := 6) (by decide) (fun _ _ _ => rfl) mw_228 dX5_readTest_57 (sd_istore (i := 4) (by decide) dX5_readTest_60 (sd_aload_n (i := 0) rfl dX5_readTest_62 (sd_iload_n (i := 2) rfl dX5_readTest_63 (sd_if_eq (tgt := 71) (by decide) dX5_readTest_64 (sd_iconst (v := 3) (by decide) dX5_readTest_71 (Sd.go)) (sd_iconst (v := 4) (by decide) dX5_readTest_67 (sd_goto (tgt := 72) (by decide) dX5_readTest_68 (Sd.go)))))))))))) : Sd l E YX5_readTest (d + 1) 0 0 Q 0 0 46 (bX5_readTest_46 l E d Q)) ls st h hB
def bX5_readTest_72 (l : Launch) (E : Ev) (d : Nat) (Q : Option Value → Hp → Prop) : Kt := k_push (.int 0) (k_callV l E 5 12 YX5_addStep d 0 0 2 (k_iload 2 (k_if_eq (k_aload 0 (k_iload 1 (k_push (.int 1) (k_callV l E 5 12 YX5_readTest d 0 0 2 (k_if_ne (Go l E YX5_readTest (d + 1) 0 0 Q 0 0 102) (k_push (.int 0) (k_iret .boolean Q))))))) (k_aload 0 (k_iload 1 (k_callV l E 5 12 YX5_readPlain d 0 0 1 (k_if_eq (k_push (.int 0) (k_iret .boolean Q)) (Go l E YX5_readTest (d + 1) 0 0 Q 0 0 102))))))))
set_option maxRecDepth 100000 in
set_option maxHeartbeats 4000000 in
theorem gX5_readTest_72 {l : Launch} {E : Ev} {d : Nat} {Q : Option Value → Hp → Prop} {ls : Lv} {st : List Value} {h : Hp} (hB : bX5_readTest_72 l E d Q ls st h) : Go l E YX5_readTest (d + 1) 0 0 Q 0 0 72 ls st h :=
  (sd_iconst (v := 0) (by decide) dX5_readTest_72 (sd_callV (Y' := YX5_addStep) (mc' := 0) (ms' := 0) (n := 2) clsX5.1 mw_714 mw_716 mw_11 mw_102 mw_717 rfl (okmX5_addStep) (by decide) (Nat.le_refl _) (by decide) (by decide) dX5_readTest_73 (sd_iload_n (i := 2) rfl dX5_readTest_76 (sd_if_eq (tgt := 91) (by decide) dX5_readTest_77 (sd_aload_n (i := 0) rfl dX5_readTest_91 (sd_iload_n (i := 1) rfl dX5_readTest_92 (sd_iconst (v := 1) (by decide) dX5_readTest_93 (sd_callV (Y' := YX5_readTest) (mc' := 0) (ms' := 0) (n := 2) clsX5.1 mw_718 mw_720 mw_12 mw_102 mw_721 rfl (okmX5_readTest) (by decide) (Nat.le_refl _) (by decide) (by decide) dX5_readTest_94 (sd_if_ne (tgt := 102) (by decide) dX5_readTest_97 (Sd.go) (sd_iconst (v := 0) (by decide) dX5_readTest_100 (sd_iret (ty := .boolean) rfl (by decide) (by decide) dX5_readTest_101))))))) (sd_aload_n (i := 0) rfl dX5_readTest_80 (sd_iload_n (i := 1) rfl dX5_readTest_81 (sd_callV (Y' := YX5_readPlain) (mc' := 0) (ms' := 0) (n := 1) clsX5.1 mw_722 mw_724 mw_13 mw_102 mw_725 rfl (okmX5_readPlain) (by decide) (Nat.le_refl _) (by decide) (by decide) dX5_readTest_82 (sd_if_eq (tgt := 100) (by decide) dX5_readTest_85 (sd_iconst (v := 0) (by decide) dX5_readTest_100 (sd_iret (ty := .boolean) rfl (by decide) (by decide) dX5_readTest_101)) (sd_goto (tgt := 102) (by decide) dX5_readTest_88 (Sd.go))))))))) : Sd l E YX5_readTest (d + 1) 0 0 Q 0 0 72 (bX5_readTest_72 l E d Q)) ls st h hB
def bX5_readTest_102 (l : Launch) (E : Ev) (d : Nat) (Q : Option Value → Hp → Prop) : Kt := k_iload 4 (k_aload 0 (k_getR 5 12 5 (k_alen (k_icmp_ge (k_iinc 3 1 (Go l E YX5_readTest (d + 1) 0 0 Q 0 0 28)) (k_aload 0 (k_getR 5 12 5 (k_iload 4 (k_dup2 (k_iaload (k_aload 0 (k_getI 5 12 6 (k_push (.int 8) (k_ishl (k_ior (k_iastore (k_iinc 3 1 (Go l E YX5_readTest (d + 1) 0 0 Q 0 0 28)))))))))))))))))
set_option maxRecDepth 100000 in
set_option maxHeartbeats 4000000 in
theorem gX5_readTest_102 {l : Launch} {E : Ev} {d : Nat} {Q : Option Value → Hp → Prop} {ls : Lv} {st : List Value} {h : Hp} (hB : bX5_readTest_102 l E d Q ls st h) : Go l E YX5_readTest (d + 1) 0 0 Q 0 0 102 ls st h :=
  (sd_iload (n := 4) dX5_readTest_102 (sd_aload_n (i := 0) rfl dX5_readTest_104 (sd_getR clsX5 (f := 5) (by decide) (fun _ _ _ => rfl) mw_227 dX5_readTest_105 (sd_alen dX5_readTest_108 (sd_icmp_ge (tgt := 129) (by decide) dX5_readTest_109 (sd_iinc (i := 3) (v := 1) (by decide) (by decide) dX5_readTest_129 (sd_goto (tgt := 28) (by decide) dX5_readTest_132 (Sd.go))) (sd_aload_n (i := 0) rfl dX5_readTest_112 (sd_getR clsX5 (f := 5) (by decide) (fun _ _ _ => rfl) mw_227 dX5_readTest_113 (sd_iload (n := 4) dX5_readTest_116 (sd_dup2 dX5_readTest_118 (sd_iaload dX5_readTest_119 (sd_aload_n (i := 0) rfl dX5_readTest_120 (sd_getI clsX5 (f := 6) (by decide) (fun _ _ _ => rfl) mw_228 dX5_readTest_121 (sd_bipush (v := 8) (by decide) dX5_readTest_124 (sd_ishl dX5_readTest_126 (sd_ior dX5_readTest_127 (sd_iastore dX5_readTest_128 (sd_iinc (i := 3) (v := 1) (by decide) (by decide) dX5_readTest_129 (sd_goto (tgt := 28) (by decide) dX5_readTest_132 (Sd.go)))))))))))))))))) : Sd l E YX5_readTest (d + 1) 0 0 Q 0 0 102 (bX5_readTest_102 l E d Q)) ls st h hB
theorem eX5_readTest {l : Launch} {E : Ev} {d : Nat} {Q : Option Value → Hp → Prop} {h : Hp} {a0 : Nat} {x1 : Int32} {x2 : Int32} (hk : Go l E YX5_readTest d 0 0 Q 0 0 0 [some (.ref a0), some (.int x1), some (.int x2), none, none] [] h) : GoM l E YX5_readTest d 0 0 [.ref a0, .int x1, .int x2] h Q := GoM.of (by decide +kernel) rfl (by simp [entA, YX5_readTest]) hk
theorem dX5_readPlain_0 : decode cX5_readPlain 0 = .ok (.iconst 0, 1) := by decide +kernel
theorem dX5_readPlain_1 : decode cX5_readPlain 1 = .ok (.istore_n 2, 1) := by decide +kernel
theorem dX5_readPlain_2 : decode cX5_readPlain 2 = .ok (.iconst 0, 1) := by decide +kernel
theorem dX5_readPlain_3 : decode cX5_readPlain 3 = .ok (.istore_n 3, 1) := by decide +kernel
theorem dX5_readPlain_4 : decode cX5_readPlain 4 = .ok (.iload_n 3, 1) := by decide +kernel
theorem dX5_readPlain_5 : decode cX5_readPlain 5 = .ok (.sipush 400, 3) := by decide +kernel
theorem dX5_readPlain_8 : decode cX5_readPlain 8 = .ok (.if_icmp .ge 32, 3) := by decide +kernel
theorem dX5_readPlain_11 : decode cX5_readPlain 11 = .ok (.aload_n 0, 1) := by decide +kernel
theorem dX5_readPlain_12 : decode cX5_readPlain 12 = .ok (.bipush 7, 2) := by decide +kernel
theorem dX5_readPlain_14 : decode cX5_readPlain 14 = .ok (.invokevirtual 54, 3) := by decide +kernel
theorem dX5_readPlain_17 : decode cX5_readPlain 17 = .ok (.ifCond .eq 23, 3) := by decide +kernel
theorem dX5_readPlain_20 : decode cX5_readPlain 20 = .ok (.aload_n 0, 1) := by decide +kernel
theorem dX5_readPlain_21 : decode cX5_readPlain 21 = .ok (.invokevirtual 58, 3) := by decide +kernel
theorem dX5_readPlain_24 : decode cX5_readPlain 24 = .ok (.iload_n 2, 1) := by decide +kernel
theorem dX5_readPlain_25 : decode cX5_readPlain 25 = .ok (.ifCond .ne 7, 3) := by decide +kernel
theorem dX5_readPlain_28 : decode cX5_readPlain 28 = .ok (.iconst 1, 1) := by decide +kernel
theorem dX5_readPlain_29 : decode cX5_readPlain 29 = .ok (.goto 4, 3) := by decide +kernel
theorem dX5_readPlain_32 : decode cX5_readPlain 32 = .ok (.iconst 0, 1) := by decide +kernel
theorem dX5_readPlain_33 : decode cX5_readPlain 33 = .ok (.istore_n 2, 1) := by decide +kernel
theorem dX5_readPlain_34 : decode cX5_readPlain 34 = .ok (.iinc 3 1, 3) := by decide +kernel
theorem dX5_readPlain_37 : decode cX5_readPlain 37 = .ok (.goto (-33), 3) := by decide +kernel
theorem dX5_readPlain_40 : decode cX5_readPlain 40 = .ok (.aload_n 0, 1) := by decide +kernel
theorem dX5_readPlain_41 : decode cX5_readPlain 41 = .ok (.sipush 140, 3) := by decide +kernel
theorem dX5_readPlain_44 : decode cX5_readPlain 44 = .ok (.invokevirtual 54, 3) := by decide +kernel
theorem dX5_readPlain_47 : decode cX5_readPlain 47 = .ok (.ifCond .eq 45, 3) := by decide +kernel
theorem dX5_readPlain_50 : decode cX5_readPlain 50 = .ok (.iload_n 1, 1) := by decide +kernel
theorem dX5_readPlain_51 : decode cX5_readPlain 51 = .ok (.bipush 8, 2) := by decide +kernel
theorem dX5_readPlain_53 : decode cX5_readPlain 53 = .ok (.if_icmp .lt 5, 3) := by decide +kernel
theorem dX5_readPlain_56 : decode cX5_readPlain 56 = .ok (.iconst 0, 1) := by decide +kernel
theorem dX5_readPlain_57 : decode cX5_readPlain 57 = .ok (.ireturn, 1) := by decide +kernel
theorem dX5_readPlain_58 : decode cX5_readPlain 58 = .ok (.aload_n 0, 1) := by decide +kernel
theorem dX5_readPlain_59 : decode cX5_readPlain 59 = .ok (.invokevirtual 58, 3) := by decide +kernel
theorem dX5_readPlain_62 : decode cX5_readPlain 62 = .ok (.aload_n 0, 1) := by decide +kernel
theorem dX5_readPlain_63 : decode cX5_readPlain 63 = .ok (.iload_n 1, 1) := by decide +kernel
theorem dX5_readPlain_64 : decode cX5_readPlain 64 = .ok (.iconst 1, 1) := by decide +kernel
theorem dX5_readPlain_65 : decode cX5_readPlain 65 = .ok (.iadd, 1) := by decide +kernel
theorem dX5_readPlain_66 : decode cX5_readPlain 66 = .ok (.iconst 0, 1) := by decide +kernel
theorem dX5_readPlain_67 : decode cX5_readPlain 67 = .ok (.invokevirtual 108, 3) := by decide +kernel
theorem dX5_readPlain_70 : decode cX5_readPlain 70 = .ok (.ifCond .eq 13, 3) := by decide +kernel
theorem dX5_readPlain_73 : decode cX5_readPlain 73 = .ok (.aload_n 0, 1) := by decide +kernel
theorem dX5_readPlain_74 : decode cX5_readPlain 74 = .ok (.sipush 141, 3) := by decide +kernel
theorem dX5_readPlain_77 : decode cX5_readPlain 77 = .ok (.invokevirtual 54, 3) := by decide +kernel
theorem dX5_readPlain_80 : decode cX5_readPlain 80 = .ok (.ifCond .ne 5, 3) := by decide +kernel
theorem dX5_readPlain_83 : decode cX5_readPlain 83 = .ok (.iconst 0, 1) := by decide +kernel
theorem dX5_readPlain_84 : decode cX5_readPlain 84 = .ok (.ireturn, 1) := by decide +kernel
theorem dX5_readPlain_85 : decode cX5_readPlain 85 = .ok (.aload_n 0, 1) := by decide +kernel
theorem dX5_readPlain_86 : decode cX5_readPlain 86 = .ok (.invokevirtual 58, 3) := by decide +kernel
theorem dX5_readPlain_89 : decode cX5_readPlain 89 = .ok (.goto 47, 3) := by decide +kernel
theorem dX5_readPlain_92 : decode cX5_readPlain 92 = .ok (.aload_n 0, 1) := by decide +kernel
theorem dX5_readPlain_93 : decode cX5_readPlain 93 = .ok (.iload_n 1, 1) := by decide +kernel
theorem dX5_readPlain_94 : decode cX5_readPlain 94 = .ok (.iconst 0, 1) := by decide +kernel
theorem dX5_readPlain_95 : decode cX5_readPlain 95 = .ok (.invokevirtual 104, 3) := by decide +kernel
theorem dX5_readPlain_98 : decode cX5_readPlain 98 = .ok (.ifCond .ne 5, 3) := by decide +kernel
theorem dX5_readPlain_101 : decode cX5_readPlain 101 = .ok (.iconst 0, 1) := by decide +kernel
theorem dX5_readPlain_102 : decode cX5_readPlain 102 = .ok (.ireturn, 1) := by decide +kernel
theorem dX5_readPlain_103 : decode cX5_readPlain 103 = .ok (.aload_n 0, 1) := by decide +kernel
theorem dX5_readPlain_104 : decode cX5_readPlain 104 = .ok (.invokevirtual 118, 3) := by decide +kernel
theorem dX5_readPlain_107 : decode cX5_readPlain 107 = .ok (.istore_n 3, 1) := by decide +kernel
theorem dX5_readPlain_108 : decode cX5_readPlain 108 = .ok (.iload_n 3, 1) := by decide +kernel
theorem dX5_readPlain_109 : decode cX5_readPlain 109 = .ok (.iconst (-1), 1) := by decide +kernel
theorem dX5_readPlain_110 : decode cX5_readPlain 110 = .ok (.if_icmp .ne 5, 3) := by decide +kernel
theorem dX5_readPlain_113 : decode cX5_readPlain 113 = .ok (.iconst 0, 1) := by decide +kernel
theorem dX5_readPlain_114 : decode cX5_readPlain 114 = .ok (.ireturn, 1) := by decide +kernel
theorem dX5_readPlain_115 : decode cX5_readPlain 115 = .ok (.aload_n 0, 1) := by decide +kernel
theorem dX5_readPlain_116 : decode cX5_readPlain 116 = .ok (.invokevirtual 58, 3) := by decide +kernel
theorem dX5_readPlain_119 : decode cX5_readPlain 119 = .ok (.aload_n 0, 1) := by decide +kernel
theorem dX5_readPlain_120 : decode cX5_readPlain 120 = .ok (.iload_n 1, 1) := by decide +kernel
theorem dX5_readPlain_121 : decode cX5_readPlain 121 = .ok (.iconst 0, 1) := by decide +kernel
theorem dX5_readPlain_122 : decode cX5_readPlain 122 = .ok (.invokevirtual 104, 3) := by decide +kernel
theorem dX5_readPlain_125 : decode cX5_readPlain 125 = .ok (.ifCond .ne 5, 3) := by decide +kernel
theorem dX5_readPlain_128 : decode cX5_readPlain 128 = .ok (.iconst 0, 1) := by decide +kernel
theorem dX5_readPlain_129 : decode cX5_readPlain 129 = .ok (.ireturn, 1) := by decide +kernel
theorem dX5_readPlain_130 : decode cX5_readPlain 130 = .ok (.aload_n 0, 1) := by decide +kernel
theorem dX5_readPlain_131 : decode cX5_readPlain 131 = .ok (.iload_n 3, 1) := by decide +kernel
theorem dX5_readPlain_132 : decode cX5_readPlain 132 = .ok (.iconst 0, 1) := by decide +kernel
theorem dX5_readPlain_133 : decode cX5_readPlain 133 = .ok (.invokevirtual 114, 3) := by decide +kernel
theorem dX5_readPlain_136 : decode cX5_readPlain 136 = .ok (.iload_n 2, 1) := by decide +kernel
theorem dX5_readPlain_137 : decode cX5_readPlain 137 = .ok (.ifCond .eq 9, 3) := by decide +kernel
theorem dX5_readPlain_140 : decode cX5_readPlain 140 = .ok (.aload_n 0, 1) := by decide +kernel
theorem dX5_readPlain_141 : decode cX5_readPlain 141 = .ok (.iconst 2, 1) := by decide +kernel
theorem dX5_readPlain_142 : decode cX5_readPlain 142 = .ok (.iconst 0, 1) := by decide +kernel
theorem dX5_readPlain_143 : decode cX5_readPlain 143 = .ok (.invokevirtual 114, 3) := by decide +kernel
theorem dX5_readPlain_146 : decode cX5_readPlain 146 = .ok (.iconst 1, 1) := by decide +kernel
theorem dX5_readPlain_147 : decode cX5_readPlain 147 = .ok (.ireturn, 1) := by decide +kernel
def bX5_readPlain_0 (l : Launch) (E : Ev) (d : Nat) (Q : Option Value → Hp → Prop) : Kt := k_push (.int 0) (k_istore 2 (k_push (.int 0) (k_istore 3 (Go l E YX5_readPlain (d + 1) 0 0 Q 0 0 4))))
set_option maxRecDepth 100000 in
set_option maxHeartbeats 4000000 in
theorem gX5_readPlain_0 {l : Launch} {E : Ev} {d : Nat} {Q : Option Value → Hp → Prop} {ls : Lv} {st : List Value} {h : Hp} (hB : bX5_readPlain_0 l E d Q ls st h) : Go l E YX5_readPlain (d + 1) 0 0 Q 0 0 0 ls st h :=
  (sd_iconst (v := 0) (by decide) dX5_readPlain_0 (sd_istore_n (i := 2) rfl (by decide) dX5_readPlain_1 (sd_iconst (v := 0) (by decide) dX5_readPlain_2 (sd_istore_n (i := 3) rfl (by decide) dX5_readPlain_3 (Sd.go)))) : Sd l E YX5_readPlain (d + 1) 0 0 Q 0 0 0 (bX5_readPlain_0 l E d Q)) ls st h hB
def bX5_readPlain_4 (l : Launch) (E : Ev) (d : Nat) (Q : Option Value → Hp → Prop) : Kt := k_iload 3 (k_push (.int 400) (k_icmp_ge (Go l E YX5_readPlain (d + 1) 0 0 Q 0 0 40) (k_aload 0 (k_push (.int 7) (k_callV l E 5 12 YX5_sees d 0 0 1 (k_if_eq (Go l E YX5_readPlain (d + 1) 0 0 Q 0 0 40) (k_aload 0 (k_callV l E 5 12 YX5_take d 0 0 0 (k_iload 2 (k_if_ne (k_push (.int 0) (k_istore 2 (k_iinc 3 1 (Go l E YX5_readPlain (d + 1) 0 0 Q 0 0 4)))) (k_push (.int 1) (k_istore 2 (k_iinc 3 1 (Go l E YX5_readPlain (d + 1) 0 0 Q 0 0 4))))))))))))))
set_option maxRecDepth 100000 in
set_option maxHeartbeats 4000000 in
theorem gX5_readPlain_4 {l : Launch} {E : Ev} {d : Nat} {Q : Option Value → Hp → Prop} {ls : Lv} {st : List Value} {h : Hp} (hB : bX5_readPlain_4 l E d Q ls st h) : Go l E YX5_readPlain (d + 1) 0 0 Q 0 0 4 ls st h :=
  (sd_iload_n (i := 3) rfl dX5_readPlain_4 (sd_sipush (v := 400) (by decide) dX5_readPlain_5 (sd_icmp_ge (tgt := 40) (by decide) dX5_readPlain_8 (Sd.go) (sd_aload_n (i := 0) rfl dX5_readPlain_11 (sd_bipush (v := 7) (by decide) dX5_readPlain_12 (sd_callV (Y' := YX5_sees) (mc' := 0) (ms' := 0) (n := 1) clsX5.1 mw_710 mw_712 mw_10 mw_102 mw_713 rfl (okmX5_sees) (by decide) (Nat.le_refl _) (by decide) (by decide) dX5_readPlain_14 (sd_if_eq (tgt := 40) (by decide) dX5_readPlain_17 (Sd.go) (sd_aload_n (i := 0) rfl dX5_readPlain_20 (sd_callV (Y' := YX5_take) (mc' := 0) (ms' := 0) (n := 0) clsX5.1 mw_698 mw_700 mw_7 mw_102 mw_701 rfl (okmX5_take) (by decide) (Nat.le_refl _) (by decide) (by decide) dX5_readPlain_21 (sd_iload_n (i := 2) rfl dX5_readPlain_24 (sd_if_ne (tgt := 32) (by decide) dX5_readPlain_25 (sd_iconst (v := 0) (by decide) dX5_readPlain_32 (sd_istore_n (i := 2) rfl (by decide) dX5_readPlain_33 (sd_iinc (i := 3) (v := 1) (by decide) (by decide) dX5_readPlain_34 (sd_goto (tgt := 4) (by decide) dX5_readPlain_37 (Sd.go))))) (sd_iconst (v := 1) (by decide) dX5_readPlain_28 (sd_goto (tgt := 33) (by decide) dX5_readPlain_29 (sd_istore_n (i := 2) rfl (by decide) dX5_readPlain_33 (sd_iinc (i := 3) (v := 1) (by decide) (by decide) dX5_readPlain_34 (sd_goto (tgt := 4) (by decide) dX5_readPlain_37 (Sd.go)))))))))))))))) : Sd l E YX5_readPlain (d + 1) 0 0 Q 0 0 4 (bX5_readPlain_4 l E d Q)) ls st h hB
def bX5_readPlain_40 (l : Launch) (E : Ev) (d : Nat) (Q : Option Value → Hp → Prop) : Kt := k_aload 0 (k_push (.int 140) (k_callV l E 5 12 YX5_sees d 0 0 1 (k_if_eq (k_aload 0 (k_iload 1 (k_push (.int 0) (k_callV l E 5 12 YX5_readSum d 0 0 2 (k_if_ne (k_aload 0 (k_callV l E 5 12 YX5_comparison d 0 0 0 (k_istore 3 (k_iload 3 (k_push (.int (-1)) (k_icmp_ne (k_aload 0 (k_callV l E 5 12 YX5_take d 0 0 0 (k_aload 0 (k_iload 1 (k_push (.int 0) (k_callV l E 5 12 YX5_readSum d 0 0 2 (k_if_ne (k_aload 0 (k_iload 3 (k_push (.int 0) (k_callV l E 5 12 YX5_addStep d 0 0 2 (Go l E YX5_readPlain (d + 1) 0 0 Q 0 0 136))))) (k_push (.int 0) (k_iret .boolean Q))))))))) (k_push (.int 0) (k_iret .boolean Q)))))))) (k_push (.int 0) (k_iret .boolean Q))))))) (k_iload 1 (k_push (.int 8) (k_icmp_lt (k_aload 0 (k_callV l E 5 12 YX5_take d 0 0 0 (k_aload 0 (k_iload 1 (k_push (.int 1) (k_iadd (k_push (.int 0) (k_callV l E 5 12 YX5_readTest d 0 0 2 (k_if_eq (k_push (.int 0) (k_iret .boolean Q)) (k_aload 0 (k_push (.int 141) (k_callV l E 5 12 YX5_sees d 0 0 1 (k_if_ne (k_aload 0 (k_callV l E 5 12 YX5_take d 0 0 0 (Go l E YX5_readPlain (d + 1) 0 0 Q 0 0 136))) (k_push (.int 0) (k_iret .boolean Q))))))))))))))) (k_push (.int 0) (k_iret .boolean Q))))))))
set_option maxRecDepth 100000 in
set_option maxHeartbeats 4000000 in
theorem gX5_readPlain_40 {l : Launch} {E : Ev} {d : Nat} {Q : Option Value → Hp → Prop} {ls : Lv} {st : List Value} {h : Hp} (hB : bX5_readPlain_40 l E d Q ls st h) : Go l E YX5_readPlain (d + 1) 0 0 Q 0 0 40 ls st h :=
  (sd_aload_n (i := 0) rfl dX5_readPlain_40 (sd_sipush (v := 140) (by decide) dX5_readPlain_41 (sd_callV (Y' := YX5_sees) (mc' := 0) (ms' := 0) (n := 1) clsX5.1 mw_710 mw_712 mw_10 mw_102 mw_713 rfl (okmX5_sees) (by decide) (Nat.le_refl _) (by decide) (by decide) dX5_readPlain_44 (sd_if_eq (tgt := 92) (by decide) dX5_readPlain_47 (sd_aload_n (i := 0) rfl dX5_readPlain_92 (sd_iload_n (i := 1) rfl dX5_readPlain_93 (sd_iconst (v := 0) (by decide) dX5_readPlain_94 (sd_callV (Y' := YX5_readSum) (mc' := 0) (ms' := 0) (n := 2) clsX5.1 mw_702 mw_704 mw_8 mw_102 mw_705 rfl (okmX5_readSum) (by decide) (Nat.le_refl _) (by decide) (by decide) dX5_readPlain_95 (sd_if_ne (tgt := 103) (by decide) dX5_readPlain_98 (sd_aload_n (i := 0) rfl dX5_readPlain_103 (sd_callV (Y' := YX5_comparison) (mc' := 0) (ms' := 0) (n := 0) clsX5.1 mw_726 mw_728 mw_14 mw_102 mw_729 rfl (okmX5_comparison) (by decide) (Nat.le_refl _) (by decide) (by decide) dX5_readPlain_104 (sd_istore_n (i := 3) rfl (by decide) dX5_readPlain_107 (sd_iload_n (i := 3) rfl dX5_readPlain_108 (sd_iconst (v := (-1)) (by decide) dX5_readPlain_109 (sd_icmp_ne (tgt := 115) (by decide) dX5_readPlain_110 (sd_aload_n (i := 0) rfl dX5_readPlain_115 (sd_callV (Y' := YX5_take) (mc' := 0) (ms' := 0) (n := 0) clsX5.1 mw_698 mw_700 mw_7 mw_102 mw_701 rfl (okmX5_take) (by decide) (Nat.le_refl _) (by decide) (by decide) dX5_readPlain_116 (sd_aload_n (i := 0) rfl dX5_readPlain_119 (sd_iload_n (i := 1) rfl dX5_readPlain_120 (sd_iconst (v := 0) (by decide) dX5_readPlain_121 (sd_callV (Y' := YX5_readSum) (mc' := 0) (ms' := 0) (n := 2) clsX5.1 mw_702 mw_704 mw_8 mw_102 mw_705 rfl (okmX5_readSum) (by decide) (Nat.le_refl _) (by decide) (by decide) dX5_readPlain_122 (sd_if_ne (tgt := 130) (by decide) dX5_readPlain_125 (sd_aload_n (i := 0) rfl dX5_readPlain_130 (sd_iload_n (i := 3) rfl dX5_readPlain_131 (sd_iconst (v := 0) (by decide) dX5_readPlain_132 (sd_callV (Y' := YX5_addStep) (mc' := 0) (ms' := 0) (n := 2) clsX5.1 mw_714 mw_716 mw_11 mw_102 mw_717 rfl (okmX5_addStep) (by decide) (Nat.le_refl _) (by decide) (by decide) dX5_readPlain_133 (Sd.go))))) (sd_iconst (v := 0) (by decide) dX5_readPlain_128 (sd_iret (ty := .boolean) rfl (by decide) (by decide) dX5_readPlain_129))))))))) (sd_iconst (v := 0) (by decide) dX5_readPlain_113 (sd_iret (ty := .boolean) rfl (by decide) (by decide) dX5_readPlain_114)))))))) (sd_iconst (v := 0) (by decide) dX5_readPlain_101 (sd_iret (ty := .boolean) rfl (by decide) (by decide) dX5_readPlain_102))))))) (sd_iload_n (i := 1) rfl dX5_readPlain_50 (sd_bipush (v := 8) (by decide) dX5_readPlain_51 (sd_icmp_lt (tgt := 58) (by decide) dX5_readPlain_53 (sd_aload_n (i := 0) rfl dX5_readPlain_58 (sd_callV (Y' := YX5_take) (mc' := 0) (ms' := 0) (n := 0) clsX5.1 mw_698 mw_700 mw_7 mw_102 mw_701 rfl (okmX5_take) (by decide) (Nat.le_refl _) (by decide) (by decide) dX5_readPlain_59 (sd_aload_n (i := 0) rfl dX5_readPlain_62 (sd_iload_n (i := 1) rfl dX5_readPlain_63 (sd_iconst (v := 1) (by decide) dX5_readPlain_64 (sd_iadd dX5_readPlain_65 (sd_iconst (v := 0) (by decide) dX5_readPlain_66 (sd_callV (Y' := YX5_readTest) (mc' := 0) (ms' := 0) (n := 2) clsX5.1 mw_718 mw_720 mw_12 mw_102 mw_721 rfl (okmX5_readTest) (by decide) (Nat.le_refl _) (by decide) (by decide) dX5_readPlain_67 (sd_if_eq (tgt := 83) (by decide) dX5_readPlain_70 (sd_iconst (v := 0) (by decide) dX5_readPlain_83 (sd_iret (ty := .boolean) rfl (by decide) (by decide) dX5_readPlain_84)) (sd_aload_n (i := 0) rfl dX5_readPlain_73 (sd_sipush (v := 141) (by decide) dX5_readPlain_74 (sd_callV (Y' := YX5_sees) (mc' := 0) (ms' := 0) (n := 1) clsX5.1 mw_710 mw_712 mw_10 mw_102 mw_713 rfl (okmX5_sees) (by decide) (Nat.le_refl _) (by decide) (by decide) dX5_readPlain_77 (sd_if_ne (tgt := 85) (by decide) dX5_readPlain_80 (sd_aload_n (i := 0) rfl dX5_readPlain_85 (sd_callV (Y' := YX5_take) (mc' := 0) (ms' := 0) (n := 0) clsX5.1 mw_698 mw_700 mw_7 mw_102 mw_701 rfl (okmX5_take) (by decide) (Nat.le_refl _) (by decide) (by decide) dX5_readPlain_86 (sd_goto (tgt := 136) (by decide) dX5_readPlain_89 (Sd.go)))) (sd_iconst (v := 0) (by decide) dX5_readPlain_83 (sd_iret (ty := .boolean) rfl (by decide) (by decide) dX5_readPlain_84))))))))))))))) (sd_iconst (v := 0) (by decide) dX5_readPlain_56 (sd_iret (ty := .boolean) rfl (by decide) (by decide) dX5_readPlain_57)))))))) : Sd l E YX5_readPlain (d + 1) 0 0 Q 0 0 40 (bX5_readPlain_40 l E d Q)) ls st h hB
def bX5_readPlain_136 (l : Launch) (E : Ev) (d : Nat) (Q : Option Value → Hp → Prop) : Kt := k_iload 2 (k_if_eq (k_push (.int 1) (k_iret .boolean Q)) (k_aload 0 (k_push (.int 2) (k_push (.int 0) (k_callV l E 5 12 YX5_addStep d 0 0 2 (k_push (.int 1) (k_iret .boolean Q)))))))
set_option maxRecDepth 100000 in
set_option maxHeartbeats 4000000 in
theorem gX5_readPlain_136 {l : Launch} {E : Ev} {d : Nat} {Q : Option Value → Hp → Prop} {ls : Lv} {st : List Value} {h : Hp} (hB : bX5_readPlain_136 l E d Q ls st h) : Go l E YX5_readPlain (d + 1) 0 0 Q 0 0 136 ls st h :=
  (sd_iload_n (i := 2) rfl dX5_readPlain_136 (sd_if_eq (tgt := 146) (by decide) dX5_readPlain_137 (sd_iconst (v := 1) (by decide) dX5_readPlain_146 (sd_iret (ty := .boolean) rfl (by decide) (by decide) dX5_readPlain_147)) (sd_aload_n (i := 0) rfl dX5_readPlain_140 (sd_iconst (v := 2) (by decide) dX5_readPlain_141 (sd_iconst (v := 0) (by decide) dX5_readPlain_142 (sd_callV (Y' := YX5_addStep) (mc' := 0) (ms' := 0) (n := 2) clsX5.1 mw_714 mw_716 mw_11 mw_102 mw_717 rfl (okmX5_addStep) (by decide) (Nat.le_refl _) (by decide) (by decide) dX5_readPlain_143 (sd_iconst (v := 1) (by decide) dX5_readPlain_146 (sd_iret (ty := .boolean) rfl (by decide) (by decide) dX5_readPlain_147))))))) : Sd l E YX5_readPlain (d + 1) 0 0 Q 0 0 136 (bX5_readPlain_136 l E d Q)) ls st h hB
theorem eX5_readPlain {l : Launch} {E : Ev} {d : Nat} {Q : Option Value → Hp → Prop} {h : Hp} {a0 : Nat} {x1 : Int32} (hk : Go l E YX5_readPlain d 0 0 Q 0 0 0 [some (.ref a0), some (.int x1), none, none] [] h) : GoM l E YX5_readPlain d 0 0 [.ref a0, .int x1] h Q := GoM.of (by decide +kernel) rfl (by simp [entA, YX5_readPlain]) hk
theorem dX5_comparison_0 : decode cX5_comparison 0 = .ok (.aload_n 0, 1) := by decide +kernel
theorem dX5_comparison_1 : decode cX5_comparison 1 = .ok (.getfield 9, 3) := by decide +kernel
theorem dX5_comparison_4 : decode cX5_comparison 4 = .ok (.aload_n 0, 1) := by decide +kernel
theorem dX5_comparison_5 : decode cX5_comparison 5 = .ok (.getfield 38, 3) := by decide +kernel
theorem dX5_comparison_8 : decode cX5_comparison 8 = .ok (.iaload, 1) := by decide +kernel
theorem dX5_comparison_9 : decode cX5_comparison 9 = .ok (.tableswitch 36 160 162 #[27, 33, 30], 27) := by decide +kernel
theorem dX5_comparison_36 : decode cX5_comparison 36 = .ok (.bipush 9, 2) := by decide +kernel
theorem dX5_comparison_38 : decode cX5_comparison 38 = .ok (.ireturn, 1) := by decide +kernel
theorem dX5_comparison_39 : decode cX5_comparison 39 = .ok (.bipush 10, 2) := by decide +kernel
theorem dX5_comparison_41 : decode cX5_comparison 41 = .ok (.ireturn, 1) := by decide +kernel
theorem dX5_comparison_42 : decode cX5_comparison 42 = .ok (.bipush 11, 2) := by decide +kernel
theorem dX5_comparison_44 : decode cX5_comparison 44 = .ok (.ireturn, 1) := by decide +kernel
theorem dX5_comparison_45 : decode cX5_comparison 45 = .ok (.iconst (-1), 1) := by decide +kernel
theorem dX5_comparison_46 : decode cX5_comparison 46 = .ok (.ireturn, 1) := by decide +kernel
def bX5_comparison_0 (l : Launch) (E : Ev) (d : Nat) (Q : Option Value → Hp → Prop) : Kt := k_aload 0 (k_getR 5 12 0 (k_aload 0 (k_getI 5 12 4 (k_iaload (k_sw [(160, (k_push (.int 9) (k_iret .int Q))), (161, (k_push (.int 11) (k_iret .int Q))), (162, (k_push (.int 10) (k_iret .int Q)))] (k_push (.int (-1)) (k_iret .int Q)))))))
set_option maxRecDepth 100000 in
set_option maxHeartbeats 4000000 in
theorem gX5_comparison_0 {l : Launch} {E : Ev} {d : Nat} {Q : Option Value → Hp → Prop} {ls : Lv} {st : List Value} {h : Hp} (hB : bX5_comparison_0 l E d Q ls st h) : Go l E YX5_comparison (d + 1) 0 0 Q 0 0 0 ls st h :=
  (sd_aload_n (i := 0) rfl dX5_comparison_0 (sd_getR clsX5 (f := 0) (by decide) (fun _ _ _ => rfl) mw_222 dX5_comparison_1 (sd_aload_n (i := 0) rfl dX5_comparison_4 (sd_getI clsX5 (f := 4) (by decide) (fun _ _ _ => rfl) mw_226 dX5_comparison_5 (sd_iaload dX5_comparison_8 (sd_table dX5_comparison_9 (dt := 45) (by decide) (sd_iconst (v := (-1)) (by decide) dX5_comparison_45 (sd_iret (ty := .int) rfl (by decide) (by decide) dX5_comparison_46)) rfl (tb_all (tb_cons (off := 27) (tgt := 36) (by decide) rfl (by decide) (sd_bipush (v := 9) (by decide) dX5_comparison_36 (sd_iret (ty := .int) rfl (by decide) (by decide) dX5_comparison_38)) (tb_cons (off := 33) (tgt := 42) (by decide) rfl (by decide) (sd_bipush (v := 11) (by decide) dX5_comparison_42 (sd_iret (ty := .int) rfl (by decide) (by decide) dX5_comparison_44)) (tb_cons (off := 30) (tgt := 39) (by decide) rfl (by decide) (sd_bipush (v := 10) (by decide) dX5_comparison_39 (sd_iret (ty := .int) rfl (by decide) (by decide) dX5_comparison_41)) (tb_nil)))))))))) : Sd l E YX5_comparison (d + 1) 0 0 Q 0 0 0 (bX5_comparison_0 l E d Q)) ls st h hB
theorem eX5_comparison {l : Launch} {E : Ev} {d : Nat} {Q : Option Value → Hp → Prop} {h : Hp} {a0 : Nat} (hk : Go l E YX5_comparison d 0 0 Q 0 0 0 [some (.ref a0)] [] h) : GoM l E YX5_comparison d 0 0 [.ref a0] h Q := GoM.of (by decide +kernel) rfl (by simp [entA, YX5_comparison]) hk
