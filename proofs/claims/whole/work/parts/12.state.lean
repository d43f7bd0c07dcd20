theorem dX7_init_0 : decode cX7_init 0 = .ok (.aload_n 0, 1) := by decide +kernel
theorem dX7_init_1 : decode cX7_init 1 = .ok (.invokespecial 3, 3) := by decide +kernel
theorem dX7_init_4 : decode cX7_init 4 = .ok (.aload_n 0, 1) := by decide +kernel
theorem dX7_init_5 : decode cX7_init 5 = .ok (.bipush 32, 2) := by decide +kernel
theorem dX7_init_7 : decode cX7_init 7 = .ok (.newarray .int, 2) := by decide +kernel
theorem dX7_init_9 : decode cX7_init 9 = .ok (.putfield 9, 3) := by decide +kernel
theorem dX7_init_12 : decode cX7_init 12 = .ok (.aload_n 0, 1) := by decide +kernel
theorem dX7_init_13 : decode cX7_init 13 = .ok (.bipush 24, 2) := by decide +kernel
theorem dX7_init_15 : decode cX7_init 15 = .ok (.newarray .int, 2) := by decide +kernel
theorem dX7_init_17 : decode cX7_init 17 = .ok (.putfield 15, 3) := by decide +kernel
theorem dX7_init_20 : decode cX7_init 20 = .ok (.aload_n 0, 1) := by decide +kernel
theorem dX7_init_21 : decode cX7_init 21 = .ok (.bipush 8, 2) := by decide +kernel
theorem dX7_init_23 : decode cX7_init 23 = .ok (.newarray .int, 2) := by decide +kernel
theorem dX7_init_25 : decode cX7_init 25 = .ok (.dup, 1) := by decide +kernel
theorem dX7_init_26 : decode cX7_init 26 = .ok (.iconst 0, 1) := by decide +kernel
theorem dX7_init_27 : decode cX7_init 27 = .ok (.iconst (-1), 1) := by decide +kernel
theorem dX7_init_28 : decode cX7_init 28 = .ok (.iastore, 1) := by decide +kernel
theorem dX7_init_29 : decode cX7_init 29 = .ok (.dup, 1) := by decide +kernel
theorem dX7_init_30 : decode cX7_init 30 = .ok (.iconst 1, 1) := by decide +kernel
theorem dX7_init_31 : decode cX7_init 31 = .ok (.iconst (-1), 1) := by decide +kernel
theorem dX7_init_32 : decode cX7_init 32 = .ok (.iastore, 1) := by decide +kernel
theorem dX7_init_33 : decode cX7_init 33 = .ok (.dup, 1) := by decide +kernel
theorem dX7_init_34 : decode cX7_init 34 = .ok (.iconst 2, 1) := by decide +kernel
theorem dX7_init_35 : decode cX7_init 35 = .ok (.iconst (-1), 1) := by decide +kernel
theorem dX7_init_36 : decode cX7_init 36 = .ok (.iastore, 1) := by decide +kernel
theorem dX7_init_37 : decode cX7_init 37 = .ok (.dup, 1) := by decide +kernel
theorem dX7_init_38 : decode cX7_init 38 = .ok (.iconst 3, 1) := by decide +kernel
theorem dX7_init_39 : decode cX7_init 39 = .ok (.iconst (-1), 1) := by decide +kernel
theorem dX7_init_40 : decode cX7_init 40 = .ok (.iastore, 1) := by decide +kernel
theorem dX7_init_41 : decode cX7_init 41 = .ok (.dup, 1) := by decide +kernel
theorem dX7_init_42 : decode cX7_init 42 = .ok (.iconst 4, 1) := by decide +kernel
theorem dX7_init_43 : decode cX7_init 43 = .ok (.iconst (-1), 1) := by decide +kernel
theorem dX7_init_44 : decode cX7_init 44 = .ok (.iastore, 1) := by decide +kernel
theorem dX7_init_45 : decode cX7_init 45 = .ok (.dup, 1) := by decide +kernel
theorem dX7_init_46 : decode cX7_init 46 = .ok (.iconst 5, 1) := by decide +kernel
theorem dX7_init_47 : decode cX7_init 47 = .ok (.iconst (-1), 1) := by decide +kernel
theorem dX7_init_48 : decode cX7_init 48 = .ok (.iastore, 1) := by decide +kernel
theorem dX7_init_49 : decode cX7_init 49 = .ok (.dup, 1) := by decide +kernel
theorem dX7_init_50 : decode cX7_init 50 = .ok (.bipush 6, 2) := by decide +kernel
theorem dX7_init_52 : decode cX7_init 52 = .ok (.iconst (-1), 1) := by decide +kernel
theorem dX7_init_53 : decode cX7_init 53 = .ok (.iastore, 1) := by decide +kernel
theorem dX7_init_54 : decode cX7_init 54 = .ok (.dup, 1) := by decide +kernel
theorem dX7_init_55 : decode cX7_init 55 = .ok (.bipush 7, 2) := by decide +kernel
theorem dX7_init_57 : decode cX7_init 57 = .ok (.iconst (-1), 1) := by decide +kernel
theorem dX7_init_58 : decode cX7_init 58 = .ok (.iastore, 1) := by decide +kernel
theorem dX7_init_59 : decode cX7_init 59 = .ok (.putfield 18, 3) := by decide +kernel
theorem dX7_init_62 : decode cX7_init 62 = .ok (.aload_n 0, 1) := by decide +kernel
theorem dX7_init_63 : decode cX7_init 63 = .ok (.bipush 64, 2) := by decide +kernel
theorem dX7_init_65 : decode cX7_init 65 = .ok (.newarray .int, 2) := by decide +kernel
theorem dX7_init_67 : decode cX7_init 67 = .ok (.putfield 21, 3) := by decide +kernel
theorem dX7_init_70 : decode cX7_init 70 = .ok (.aload_n 0, 1) := by decide +kernel
theorem dX7_init_71 : decode cX7_init 71 = .ok (.iconst 3, 1) := by decide +kernel
theorem dX7_init_72 : decode cX7_init 72 = .ok (.newarray .int, 2) := by decide +kernel
theorem dX7_init_74 : decode cX7_init 74 = .ok (.dup, 1) := by decide +kernel
theorem dX7_init_75 : decode cX7_init 75 = .ok (.iconst 0, 1) := by decide +kernel
theorem dX7_init_76 : decode cX7_init 76 = .ok (.iconst 1, 1) := by decide +kernel
theorem dX7_init_77 : decode cX7_init 77 = .ok (.iastore, 1) := by decide +kernel
theorem dX7_init_78 : decode cX7_init 78 = .ok (.dup, 1) := by decide +kernel
theorem dX7_init_79 : decode cX7_init 79 = .ok (.iconst 1, 1) := by decide +kernel
theorem dX7_init_80 : decode cX7_init 80 = .ok (.iconst 0, 1) := by decide +kernel
theorem dX7_init_81 : decode cX7_init 81 = .ok (.iastore, 1) := by decide +kernel
theorem dX7_init_82 : decode cX7_init 82 = .ok (.dup, 1) := by decide +kernel
theorem dX7_init_83 : decode cX7_init 83 = .ok (.iconst 2, 1) := by decide +kernel
theorem dX7_init_84 : decode cX7_init 84 = .ok (.iconst 0, 1) := by decide +kernel
theorem dX7_init_85 : decode cX7_init 85 = .ok (.iastore, 1) := by decide +kernel
theorem dX7_init_86 : decode cX7_init 86 = .ok (.putfield 24, 3) := by decide +kernel
theorem dX7_init_89 : decode cX7_init 89 = .ok (.aload_n 0, 1) := by decide +kernel
theorem dX7_init_90 : decode cX7_init 90 = .ok (.bipush 6, 2) := by decide +kernel
theorem dX7_init_92 : decode cX7_init 92 = .ok (.anewarray 27, 3) := by decide +kernel
theorem dX7_init_95 : decode cX7_init 95 = .ok (.putfield 29, 3) := by decide +kernel
theorem dX7_init_98 : decode cX7_init 98 = .ok (.aload_n 0, 1) := by decide +kernel
theorem dX7_init_99 : decode cX7_init 99 = .ok (.iconst (-1), 1) := by decide +kernel
theorem dX7_init_100 : decode cX7_init 100 = .ok (.putfield 33, 3) := by decide +kernel
theorem dX7_init_103 : decode cX7_init 103 = .ok (.aload_n 0, 1) := by decide +kernel
theorem dX7_init_104 : decode cX7_init 104 = .ok (.bipush 28, 2) := by decide +kernel
theorem dX7_init_106 : decode cX7_init 106 = .ok (.newarray .int, 2) := by decide +kernel
theorem dX7_init_108 : decode cX7_init 108 = .ok (.putfield 37, 3) := by decide +kernel
theorem dX7_init_111 : decode cX7_init 111 = .ok (.aload_n 0, 1) := by decide +kernel
theorem dX7_init_112 : decode cX7_init 112 = .ok (.bipush 8, 2) := by decide +kernel
theorem dX7_init_114 : decode cX7_init 114 = .ok (.newarray .int, 2) := by decide +kernel
theorem dX7_init_116 : decode cX7_init 116 = .ok (.putfield 40, 3) := by decide +kernel
theorem dX7_init_119 : decode cX7_init 119 = .ok (.return_, 1) := by decide +kernel
def bX7_init_0 (l : Launch) (E : Ev) (d : Nat) (Q : Option Value → Hp → Prop) : Kt := k_aload 0 (k_objInit (k_aload 0 (k_push (.int 32) (k_newarr 1 32 (k_putR 7 15 2 (k_aload 0 (k_push (.int 24) (k_newarr 1 24 (k_putR 7 15 3 (k_aload 0 (k_push (.int 8) (k_newarr 1 8 (k_dup (k_push (.int 0) (k_push (.int (-1)) (k_iastore (k_dup (k_push (.int 1) (k_push (.int (-1)) (k_iastore (k_dup (k_push (.int 2) (k_push (.int (-1)) (k_iastore (k_dup (k_push (.int 3) (k_push (.int (-1)) (k_iastore (k_dup (k_push (.int 4) (k_push (.int (-1)) (k_iastore (k_dup (k_push (.int 5) (k_push (.int (-1)) (k_iastore (k_dup (k_push (.int 6) (k_push (.int (-1)) (k_iastore (k_dup (k_push (.int 7) (k_push (.int (-1)) (k_iastore (k_putR 7 15 4 (k_aload 0 (k_push (.int 64) (k_newarr 1 64 (k_putR 7 15 5 (k_aload 0 (k_push (.int 3) (k_newarr 1 3 (k_dup (k_push (.int 0) (k_push (.int 1) (k_iastore (k_dup (k_push (.int 1) (k_push (.int 0) (k_iastore (k_dup (k_push (.int 2) (k_push (.int 0) (k_iastore (k_putR 7 15 7 (k_aload 0 (k_push (.int 6) (k_anew 4 6 (k_putR 7 15 8 (k_aload 0 (k_push (.int (-1)) (k_putI 7 15 10 (k_aload 0 (k_push (.int 28) (k_newarr 1 28 (k_putR 7 15 11 (k_aload 0 (k_push (.int 8) (k_newarr 1 8 (k_putR 7 15 13 (k_vret Q)))))))))))))))))))))))))))))))))))))))))))))))))))))))))))))))))))))))))))))))))
set_option maxRecDepth 100000 in
set_option maxHeartbeats 4000000 in
theorem gX7_init_0 {l : Launch} {E : Ev} {d : Nat} {Q : Option Value → Hp → Prop} {ls : Lv} {st : List Value} {h : Hp} (hB : bX7_init_0 l E d Q ls st h) : Go l E YX7_init (d + 1) 8 173 Q 0 0 0 ls st h :=
  (sd_aload_n (i := 0) rfl dX7_init_0 (sd_objInit mw_132 mw_125 mw_126 (by omega) dX7_init_1 (sd_aload_n (i := 0) rfl dX7_init_4 (sd_bipush (v := 32) (by decide) dX7_init_5 (sd_newarr (at' := .int) (ki := 1) (B := 32) (by decide) mw_214 (by decide) (by decide) (by decide) dX7_init_7 (sd_putR clsX7 (f := 2) (by decide) (fun _ _ _ => rfl) rfl (Or.inr ⟨rfl, rfl, rfl⟩) mw_144 dX7_init_9 (sd_aload_n (i := 0) rfl dX7_init_12 (sd_bipush (v := 24) (by decide) dX7_init_13 (sd_newarr (at' := .int) (ki := 1) (B := 24) (by decide) mw_214 (by decide) (by decide) (by decide) dX7_init_15 (sd_putR clsX7 (f := 3) (by decide) (fun _ _ _ => rfl) rfl (Or.inr ⟨rfl, rfl, rfl⟩) mw_150 dX7_init_17 (sd_aload_n (i := 0) rfl dX7_init_20 (sd_bipush (v := 8) (by decide) dX7_init_21 (sd_newarr (at' := .int) (ki := 1) (B := 8) (by decide) mw_214 (by decide) (by decide) (by decide) dX7_init_23 (sd_dup dX7_init_25 (sd_iconst (v := 0) (by decide) dX7_init_26 (sd_iconst (v := (-1)) (by decide) dX7_init_27 (sd_iastore dX7_init_28 (sd_dup dX7_init_29 (sd_iconst (v := 1) (by decide) dX7_init_30 (sd_iconst (v := (-1)) (by decide) dX7_init_31 (sd_iastore dX7_init_32 (sd_dup dX7_init_33 (sd_iconst (v := 2) (by decide) dX7_init_34 (sd_iconst (v := (-1)) (by decide) dX7_init_35 (sd_iastore dX7_init_36 (sd_dup dX7_init_37 (sd_iconst (v := 3) (by decide) dX7_init_38 (sd_iconst (v := (-1)) (by decide) dX7_init_39 (sd_iastore dX7_init_40 (sd_dup dX7_init_41 (sd_iconst (v := 4) (by decide) dX7_init_42 (sd_iconst (v := (-1)) (by decide) dX7_init_43 (sd_iastore dX7_init_44 (sd_dup dX7_init_45 (sd_iconst (v := 5) (by decide) dX7_init_46 (sd_iconst (v := (-1)) (by decide) dX7_init_47 (sd_iastore dX7_init_48 (sd_dup dX7_init_49 (sd_bipush (v := 6) (by decide) dX7_init_50 (sd_iconst (v := (-1)) (by decide) dX7_init_52 (sd_iastore dX7_init_53 (sd_dup dX7_init_54 (sd_bipush (v := 7) (by decide) dX7_init_55 (sd_iconst (v := (-1)) (by decide) dX7_init_57 (sd_iastore dX7_init_58 (sd_putR clsX7 (f := 4) (by decide) (fun _ _ _ => rfl) rfl (Or.inr ⟨rfl, rfl, rfl⟩) mw_153 dX7_init_59 (sd_aload_n (i := 0) rfl dX7_init_62 (sd_bipush (v := 64) (by decide) dX7_init_63 (sd_newarr (at' := .int) (ki := 1) (B := 64) (by decide) mw_214 (by decide) (by decide) (by decide) dX7_init_65 (sd_putR clsX7 (f := 5) (by decide) (fun _ _ _ => rfl) rfl (Or.inr ⟨rfl, rfl, rfl⟩) mw_156 dX7_init_67 (sd_aload_n (i := 0) rfl dX7_init_70 (sd_iconst (v := 3) (by decide) dX7_init_71 (sd_newarr (at' := .int) (ki := 1) (B := 3) (by decide) mw_214 (by decide) (by decide) (by decide) dX7_init_72 (sd_dup dX7_init_74 (sd_iconst (v := 0) (by decide) dX7_init_75 (sd_iconst (v := 1) (by decide) dX7_init_76 (sd_iastore dX7_init_77 (sd_dup dX7_init_78 (sd_iconst (v := 1) (by decide) dX7_init_79 (sd_iconst (v := 0) (by decide) dX7_init_80 (sd_iastore dX7_init_81 (sd_dup dX7_init_82 (sd_iconst (v := 2) (by decide) dX7_init_83 (sd_iconst (v := 0) (by decide) dX7_init_84 (sd_iastore dX7_init_85 (sd_putR clsX7 (f := 7) (by decide) (fun _ _ _ => rfl) rfl (Or.inr ⟨rfl, rfl, rfl⟩) mw_162 dX7_init_86 (sd_aload_n (i := 0) rfl dX7_init_89 (sd_bipush (v := 6) (by decide) dX7_init_90 (sd_anew (ki := 4) (B := 6) (Cn := RX2) (by decide) mw_133 (by decide) (by decide) (by decide) dX7_init_92 (sd_putR clsX7 (f := 8) (by decide) (fun _ _ _ => rfl) rfl (Or.inr ⟨rfl, rfl, rfl⟩) mw_167 dX7_init_95 (sd_aload_n (i := 0) rfl dX7_init_98 (sd_iconst (v := (-1)) (by decide) dX7_init_99 (sd_putI clsX7 (f := 10) (by decide) (fun _ _ _ => rfl) rfl (Or.inl rfl) mw_171 dX7_init_100 (sd_aload_n (i := 0) rfl dX7_init_103 (sd_bipush (v := 28) (by decide) dX7_init_104 (sd_newarr (at' := .int) (ki := 1) (B := 28) (by decide) mw_214 (by decide) (by decide) (by decide) dX7_init_106 (sd_putR clsX7 (f := 11) (by decide) (fun _ _ _ => rfl) rfl (Or.inr ⟨rfl, rfl, rfl⟩) mw_173 dX7_init_108 (sd_aload_n (i := 0) rfl dX7_init_111 (sd_bipush (v := 8) (by decide) dX7_init_112 (sd_newarr (at' := .int) (ki := 1) (B := 8) (by decide) mw_214 (by decide) (by decide) (by decide) dX7_init_114 (sd_putR clsX7 (f := 13) (by decide) (fun _ _ _ => rfl) rfl (Or.inr ⟨rfl, rfl, rfl⟩) mw_179 dX7_init_116 (sd_vret rfl (by decide) (by decide) dX7_init_119))))))))))))))))))))))))))))))))))))))))))))))))))))))))))))))))))))))))))))))))) : Sd l E YX7_init (d + 1) 8 173 Q 0 0 0 (bX7_init_0 l E d Q)) ls st h hB
theorem eX7_init {l : Launch} {E : Ev} {d : Nat} {Q : Option Value → Hp → Prop} {h : Hp} {a0 : Nat} (hk : Go l E YX7_init d 8 173 Q 0 0 0 [some (.ref a0)] [] h) : GoM l E YX7_init d 8 173 [.ref a0] h Q := GoM.of (by decide +kernel) rfl (by simp [entA, YX7_init]) hk
theorem dX7_hasActor_0 : decode cX7_hasActor 0 = .ok (.iload_n 1, 1) := by decide +kernel
theorem dX7_hasActor_1 : decode cX7_hasActor 1 = .ok (.ifCond .lt 15, 3) := by decide +kernel
theorem dX7_hasActor_4 : decode cX7_hasActor 4 = .ok (.iload_n 1, 1) := by decide +kernel
theorem dX7_hasActor_5 : decode cX7_hasActor 5 = .ok (.aload_n 0, 1) := by decide +kernel
theorem dX7_hasActor_6 : decode cX7_hasActor 6 = .ok (.getfield 43, 3) := by decide +kernel
theorem dX7_hasActor_9 : decode cX7_hasActor 9 = .ok (.if_icmp .ge 7, 3) := by decide +kernel
theorem dX7_hasActor_12 : decode cX7_hasActor 12 = .ok (.iconst 1, 1) := by decide +kernel
theorem dX7_hasActor_13 : decode cX7_hasActor 13 = .ok (.goto 4, 3) := by decide +kernel
theorem dX7_hasActor_16 : decode cX7_hasActor 16 = .ok (.iconst 0, 1) := by decide +kernel
theorem dX7_hasActor_17 : decode cX7_hasActor 17 = .ok (.ireturn, 1) := by decide +kernel
def bX7_hasActor_0 (l : Launch) (E : Ev) (d : Nat) (Q : Option Value → Hp → Prop) : Kt := k_iload 1 (k_if_lt (k_push (.int 0) (k_iret .boolean Q)) (k_iload 1 (k_aload 0 (k_getI 7 15 0 (k_icmp_ge (k_push (.int 0) (k_iret .boolean Q)) (k_push (.int 1) (k_iret .boolean Q)))))))
set_option maxRecDepth 100000 in
set_option maxHeartbeats 4000000 in
theorem gX7_hasActor_0 {l : Launch} {E : Ev} {d : Nat} {Q : Option Value → Hp → Prop} {ls : Lv} {st : List Value} {h : Hp} (hB : bX7_hasActor_0 l E d Q ls st h) : Go l E YX7_hasActor (d + 1) 0 0 Q 0 0 0 ls st h :=
  (sd_iload_n (i := 1) rfl dX7_hasActor_0 (sd_if_lt (tgt := 16) (by decide) dX7_hasActor_1 (sd_iconst (v := 0) (by decide) dX7_hasActor_16 (sd_iret (ty := .boolean) rfl (by decide) (by decide) dX7_hasActor_17)) (sd_iload_n (i := 1) rfl dX7_hasActor_4 (sd_aload_n (i := 0) rfl dX7_hasActor_5 (sd_getI clsX7 (f := 0) (by decide) (fun _ _ _ => rfl) mw_136 dX7_hasActor_6 (sd_icmp_ge (tgt := 16) (by decide) dX7_hasActor_9 (sd_iconst (v := 0) (by decide) dX7_hasActor_16 (sd_iret (ty := .boolean) rfl (by decide) (by decide) dX7_hasActor_17)) (sd_iconst (v := 1) (by decide) dX7_hasActor_12 (sd_goto (tgt := 17) (by decide) dX7_hasActor_13 (sd_iret (ty := .boolean) rfl (by decide) (by decide) dX7_hasActor_17)))))))) : Sd l E YX7_hasActor (d + 1) 0 0 Q 0 0 0 (bX7_hasActor_0 l E d Q)) ls st h hB
theorem eX7_hasActor {l : Launch} {E : Ev} {d : Nat} {Q : Option Value → Hp → Prop} {h : Hp} {a0 : Nat} {x1 : Int32} (hk : Go l E YX7_hasActor d 0 0 Q 0 0 0 [some (.ref a0), some (.int x1)] [] h) : GoM l E YX7_hasActor d 0 0 [.ref a0, .int x1] h Q := GoM.of (by decide +kernel) rfl (by simp [entA, YX7_hasActor]) hk
theorem dX7_hasPart_0 : decode cX7_hasPart 0 = .ok (.iload_n 1, 1) := by decide +kernel
theorem dX7_hasPart_1 : decode cX7_hasPart 1 = .ok (.ifCond .lt 15, 3) := by decide +kernel
theorem dX7_hasPart_4 : decode cX7_hasPart 4 = .ok (.iload_n 1, 1) := by decide +kernel
theorem dX7_hasPart_5 : decode cX7_hasPart 5 = .ok (.aload_n 0, 1) := by decide +kernel
theorem dX7_hasPart_6 : decode cX7_hasPart 6 = .ok (.getfield 46, 3) := by decide +kernel
theorem dX7_hasPart_9 : decode cX7_hasPart 9 = .ok (.if_icmp .ge 7, 3) := by decide +kernel
theorem dX7_hasPart_12 : decode cX7_hasPart 12 = .ok (.iconst 1, 1) := by decide +kernel
theorem dX7_hasPart_13 : decode cX7_hasPart 13 = .ok (.goto 4, 3) := by decide +kernel
theorem dX7_hasPart_16 : decode cX7_hasPart 16 = .ok (.iconst 0, 1) := by decide +kernel
theorem dX7_hasPart_17 : decode cX7_hasPart 17 = .ok (.ireturn, 1) := by decide +kernel
def bX7_hasPart_0 (l : Launch) (E : Ev) (d : Nat) (Q : Option Value → Hp → Prop) : Kt := k_iload 1 (k_if_lt (k_push (.int 0) (k_iret .boolean Q)) (k_iload 1 (k_aload 0 (k_getI 7 15 1 (k_icmp_ge (k_push (.int 0) (k_iret .boolean Q)) (k_push (.int 1) (k_iret .boolean Q)))))))
set_option maxRecDepth 100000 in
set_option maxHeartbeats 4000000 in
theorem gX7_hasPart_0 {l : Launch} {E : Ev} {d : Nat} {Q : Option Value → Hp → Prop} {ls : Lv} {st : List Value} {h : Hp} (hB : bX7_hasPart_0 l E d Q ls st h) : Go l E YX7_hasPart (d + 1) 0 0 Q 0 0 0 ls st h :=
  (sd_iload_n (i := 1) rfl dX7_hasPart_0 (sd_if_lt (tgt := 16) (by decide) dX7_hasPart_1 (sd_iconst (v := 0) (by decide) dX7_hasPart_16 (sd_iret (ty := .boolean) rfl (by decide) (by decide) dX7_hasPart_17)) (sd_iload_n (i := 1) rfl dX7_hasPart_4 (sd_aload_n (i := 0) rfl dX7_hasPart_5 (sd_getI clsX7 (f := 1) (by decide) (fun _ _ _ => rfl) mw_142 dX7_hasPart_6 (sd_icmp_ge (tgt := 16) (by decide) dX7_hasPart_9 (sd_iconst (v := 0) (by decide) dX7_hasPart_16 (sd_iret (ty := .boolean) rfl (by decide) (by decide) dX7_hasPart_17)) (sd_iconst (v := 1) (by decide) dX7_hasPart_12 (sd_goto (tgt := 17) (by decide) dX7_hasPart_13 (sd_iret (ty := .boolean) rfl (by decide) (by decide) dX7_hasPart_17)))))))) : Sd l E YX7_hasPart (d + 1) 0 0 Q 0 0 0 (bX7_hasPart_0 l E d Q)) ls st h hB
theorem eX7_hasPart {l : Launch} {E : Ev} {d : Nat} {Q : Option Value → Hp → Prop} {h : Hp} {a0 : Nat} {x1 : Int32} (hk : Go l E YX7_hasPart d 0 0 Q 0 0 0 [some (.ref a0), some (.int x1)] [] h) : GoM l E YX7_hasPart d 0 0 [.ref a0, .int x1] h Q := GoM.of (by decide +kernel) rfl (by simp [entA, YX7_hasPart]) hk
theorem dX7_hasBoth_0 : decode cX7_hasBoth 0 = .ok (.aload_n 0, 1) := by decide +kernel
theorem dX7_hasBoth_1 : decode cX7_hasBoth 1 = .ok (.iload_n 1, 1) := by decide +kernel
theorem dX7_hasBoth_2 : decode cX7_hasBoth 2 = .ok (.invokevirtual 49, 3) := by decide +kernel
theorem dX7_hasBoth_5 : decode cX7_hasBoth 5 = .ok (.ifCond .eq 15, 3) := by decide +kernel
theorem dX7_hasBoth_8 : decode cX7_hasBoth 8 = .ok (.aload_n 0, 1) := by decide +kernel
theorem dX7_hasBoth_9 : decode cX7_hasBoth 9 = .ok (.iload_n 2, 1) := by decide +kernel
theorem dX7_hasBoth_10 : decode cX7_hasBoth 10 = .ok (.invokevirtual 53, 3) := by decide +kernel
theorem dX7_hasBoth_13 : decode cX7_hasBoth 13 = .ok (.ifCond .eq 7, 3) := by decide +kernel
theorem dX7_hasBoth_16 : decode cX7_hasBoth 16 = .ok (.iconst 1, 1) := by decide +kernel
theorem dX7_hasBoth_17 : decode cX7_hasBoth 17 = .ok (.goto 4, 3) := by decide +kernel
theorem dX7_hasBoth_20 : decode cX7_hasBoth 20 = .ok (.iconst 0, 1) := by decide +kernel
theorem dX7_hasBoth_21 : decode cX7_hasBoth 21 = .ok (.ireturn, 1) := by decide +kernel
def bX7_hasBoth_0 (l : Launch) (E : Ev) (d : Nat) (Q : Option Value → Hp → Prop) : Kt := k_aload 0 (k_iload 1 (k_callV l E 7 15 YX7_hasActor d 0 0 1 (k_if_eq (k_push (.int 0) (k_iret .boolean Q)) (k_aload 0 (k_iload 2 (k_callV l E 7 15 YX7_hasPart d 0 0 1 (k_if_eq (k_push (.int 0) (k_iret .boolean Q)) (k_push (.int 1) (k_iret .boolean Q)))))))))
set_option maxRecDepth 100000 in
set_option maxHeartbeats 4000000 in
theorem gX7_hasBoth_0 {l : Launch} {E : Ev} {d : Nat} {Q : Option Value → Hp → Prop} {ls : Lv} {st : List Value} {h : Hp} (hB : bX7_hasBoth_0 l E d Q ls st h) : Go l E YX7_hasBoth (d + 1) 0 0 Q 0 0 0 ls st h :=
  (sd_aload_n (i := 0) rfl dX7_hasBoth_0 (sd_iload_n (i := 1) rfl dX7_hasBoth_1 (sd_callV (Y' := YX7_hasActor) (mc' := 0) (ms' := 0) (n := 1) clsX7.1 mw_545 mw_522 mw_523 mw_101 mw_524 rfl (okmX7_hasActor) (by decide) (Nat.le_refl _) (by decide) (by decide) dX7_hasBoth_2 (sd_if_eq (tgt := 20) (by decide) dX7_hasBoth_5 (sd_iconst (v := 0) (by decide) dX7_hasBoth_20 (sd_iret (ty := .boolean) rfl (by decide) (by decide) dX7_hasBoth_21)) (sd_aload_n (i := 0) rfl dX7_hasBoth_8 (sd_iload_n (i := 2) rfl dX7_hasBoth_9 (sd_callV (Y' := YX7_hasPart) (mc' := 0) (ms' := 0) (n := 1) clsX7.1 mw_546 mw_530 mw_531 mw_101 mw_532 rfl (okmX7_hasPart) (by decide) (Nat.le_refl _) (by decide) (by decide) dX7_hasBoth_10 (sd_if_eq (tgt := 20) (by decide) dX7_hasBoth_13 (sd_iconst (v := 0) (by decide) dX7_hasBoth_20 (sd_iret (ty := .boolean) rfl (by decide) (by decide) dX7_hasBoth_21)) (sd_iconst (v := 1) (by decide) dX7_hasBoth_16 (sd_goto (tgt := 21) (by decide) dX7_hasBoth_17 (sd_iret (ty := .boolean) rfl (by decide) (by decide) dX7_hasBoth_21)))))))))) : Sd l E YX7_hasBoth (d + 1) 0 0 Q 0 0 0 (bX7_hasBoth_0 l E d Q)) ls st h hB
theorem eX7_hasBoth {l : Launch} {E : Ev} {d : Nat} {Q : Option Value → Hp → Prop} {h : Hp} {a0 : Nat} {x1 : Int32} {x2 : Int32} (hk : Go l E YX7_hasBoth d 0 0 Q 0 0 0 [some (.ref a0), some (.int x1), some (.int x2)] [] h) : GoM l E YX7_hasBoth d 0 0 [.ref a0, .int x1, .int x2] h Q := GoM.of (by decide +kernel) rfl (by simp [entA, YX7_hasBoth]) hk
theorem dX7_forced_0 : decode cX7_forced 0 = .ok (.aload_n 0, 1) := by decide +kernel
theorem dX7_forced_1 : decode cX7_forced 1 = .ok (.getfield 33, 3) := by decide +kernel
theorem dX7_forced_4 : decode cX7_forced 4 = .ok (.ifCond .lt 26, 3) := by decide +kernel
theorem dX7_forced_7 : decode cX7_forced 7 = .ok (.aload_n 0, 1) := by decide +kernel
theorem dX7_forced_8 : decode cX7_forced 8 = .ok (.getfield 33, 3) := by decide +kernel
theorem dX7_forced_11 : decode cX7_forced 11 = .ok (.aload_n 0, 1) := by decide +kernel
theorem dX7_forced_12 : decode cX7_forced 12 = .ok (.getfield 56, 3) := by decide +kernel
theorem dX7_forced_15 : decode cX7_forced 15 = .ok (.if_icmp .ge 15, 3) := by decide +kernel
theorem dX7_forced_18 : decode cX7_forced 18 = .ok (.aload_n 0, 1) := by decide +kernel
theorem dX7_forced_19 : decode cX7_forced 19 = .ok (.getfield 29, 3) := by decide +kernel
theorem dX7_forced_22 : decode cX7_forced 22 = .ok (.aload_n 0, 1) := by decide +kernel
theorem dX7_forced_23 : decode cX7_forced 23 = .ok (.getfield 33, 3) := by decide +kernel
theorem dX7_forced_26 : decode cX7_forced 26 = .ok (.aaload, 1) := by decide +kernel
theorem dX7_forced_27 : decode cX7_forced 27 = .ok (.goto 4, 3) := by decide +kernel
theorem dX7_forced_30 : decode cX7_forced 30 = .ok (.aconst_null, 1) := by decide +kernel
theorem dX7_forced_31 : decode cX7_forced 31 = .ok (.areturn, 1) := by decide +kernel
def bX7_forced_0 (l : Launch) (E : Ev) (d : Nat) (Q : Option Value → Hp → Prop) : Kt := k_aload 0 (k_getI 7 15 10 (k_if_lt (k_push .null (k_aret Q)) (k_aload 0 (k_getI 7 15 10 (k_aload 0 (k_getI 7 15 9 (k_icmp_ge (k_push .null (k_aret Q)) (k_aload 0 (k_getR 7 15 8 (k_aload 0 (k_getI 7 15 10 (k_aaload 4 (k_aret Q)))))))))))))
set_option maxRecDepth 100000 in
set_option maxHeartbeats 4000000 in
theorem gX7_forced_0 {l : Launch} {E : Ev} {d : Nat} {Q : Option Value → Hp → Prop} {ls : Lv} {st : List Value} {h : Hp} (hB : bX7_forced_0 l E d Q ls st h) : Go l E YX7_forced (d + 1) 0 0 Q 0 0 0 ls st h :=
  (sd_aload_n (i := 0) rfl dX7_forced_0 (sd_getI clsX7 (f := 10) (by decide) (fun _ _ _ => rfl) mw_171 dX7_forced_1 (sd_if_lt (tgt := 30) (by decide) dX7_forced_4 (sd_null dX7_forced_30 (sd_aret (rt := (.object "IllTonight$Law")) rfl (Or.inl ⟨_, rfl⟩) (by decide) (by decide) dX7_forced_31)) (sd_aload_n (i := 0) rfl dX7_forced_7 (sd_getI clsX7 (f := 10) (by decide) (fun _ _ _ => rfl) mw_171 dX7_forced_8 (sd_aload_n (i := 0) rfl dX7_forced_11 (sd_getI clsX7 (f := 9) (by decide) (fun _ _ _ => rfl) mw_169 dX7_forced_12 (sd_icmp_ge (tgt := 30) (by decide) dX7_forced_15 (sd_null dX7_forced_30 (sd_aret (rt := (.object "IllTonight$Law")) rfl (Or.inl ⟨_, rfl⟩) (by decide) (by decide) dX7_forced_31)) (sd_aload_n (i := 0) rfl dX7_forced_18 (sd_getR clsX7 (f := 8) (by decide) (fun _ _ _ => rfl) mw_167 dX7_forced_19 (sd_aload_n (i := 0) rfl dX7_forced_22 (sd_getI clsX7 (f := 10) (by decide) (fun _ _ _ => rfl) mw_171 dX7_forced_23 (sd_aaload (ki := 4) (by decide) dX7_forced_26 (sd_goto (tgt := 31) (by decide) dX7_forced_27 (sd_aret (rt := (.object "IllTonight$Law")) rfl (Or.inl ⟨_, rfl⟩) (by decide) (by decide) dX7_forced_31)))))))))))))) : Sd l E YX7_forced (d + 1) 0 0 Q 0 0 0 (bX7_forced_0 l E d Q)) ls st h hB
theorem eX7_forced {l : Launch} {E : Ev} {d : Nat} {Q : Option Value → Hp → Prop} {h : Hp} {a0 : Nat} (hk : Go l E YX7_forced d 0 0 Q 0 0 0 [some (.ref a0)] [] h) : GoM l E YX7_forced d 0 0 [.ref a0] h Q := GoM.of (by decide +kernel) rfl (by simp [entA, YX7_forced]) hk
theorem dX7_become_0 : decode cX7_become 0 = .ok (.aload_n 0, 1) := by decide +kernel
theorem dX7_become_1 : decode cX7_become 1 = .ok (.aload_n 1, 1) := by decide +kernel
theorem dX7_become_2 : decode cX7_become 2 = .ok (.getfield 43, 3) := by decide +kernel
theorem dX7_become_5 : decode cX7_become 5 = .ok (.putfield 43, 3) := by decide +kernel
theorem dX7_become_8 : decode cX7_become 8 = .ok (.aload_n 0, 1) := by decide +kernel
theorem dX7_become_9 : decode cX7_become 9 = .ok (.aload_n 1, 1) := by decide +kernel
theorem dX7_become_10 : decode cX7_become 10 = .ok (.getfield 46, 3) := by decide +kernel
theorem dX7_become_13 : decode cX7_become 13 = .ok (.putfield 46, 3) := by decide +kernel
theorem dX7_become_16 : decode cX7_become 16 = .ok (.aload_n 1, 1) := by decide +kernel
theorem dX7_become_17 : decode cX7_become 17 = .ok (.getfield 9, 3) := by decide +kernel
theorem dX7_become_20 : decode cX7_become 20 = .ok (.iconst 0, 1) := by decide +kernel
theorem dX7_become_21 : decode cX7_become 21 = .ok (.aload_n 0, 1) := by decide +kernel
theorem dX7_become_22 : decode cX7_become 22 = .ok (.getfield 9, 3) := by decide +kernel
theorem dX7_become_25 : decode cX7_become 25 = .ok (.iconst 0, 1) := by decide +kernel
theorem dX7_become_26 : decode cX7_become 26 = .ok (.aload_n 0, 1) := by decide +kernel
theorem dX7_become_27 : decode cX7_become 27 = .ok (.getfield 9, 3) := by decide +kernel
theorem dX7_become_30 : decode cX7_become 30 = .ok (.arraylength, 1) := by decide +kernel
theorem dX7_become_31 : decode cX7_become 31 = .ok (.invokestatic 59, 3) := by decide +kernel
theorem dX7_become_34 : decode cX7_become 34 = .ok (.aload_n 1, 1) := by decide +kernel
theorem dX7_become_35 : decode cX7_become 35 = .ok (.getfield 15, 3) := by decide +kernel
theorem dX7_become_38 : decode cX7_become 38 = .ok (.iconst 0, 1) := by decide +kernel
theorem dX7_become_39 : decode cX7_become 39 = .ok (.aload_n 0, 1) := by decide +kernel
theorem dX7_become_40 : decode cX7_become 40 = .ok (.getfield 15, 3) := by decide +kernel
theorem dX7_become_43 : decode cX7_become 43 = .ok (.iconst 0, 1) := by decide +kernel
theorem dX7_become_44 : decode cX7_become 44 = .ok (.aload_n 0, 1) := by decide +kernel
theorem dX7_become_45 : decode cX7_become 45 = .ok (.getfield 15, 3) := by decide +kernel
theorem dX7_become_48 : decode cX7_become 48 = .ok (.arraylength, 1) := by decide +kernel
theorem dX7_become_49 : decode cX7_become 49 = .ok (.invokestatic 59, 3) := by decide +kernel
theorem dX7_become_52 : decode cX7_become 52 = .ok (.aload_n 1, 1) := by decide +kernel
theorem dX7_become_53 : decode cX7_become 53 = .ok (.getfield 18, 3) := by decide +kernel
theorem dX7_become_56 : decode cX7_become 56 = .ok (.iconst 0, 1) := by decide +kernel
theorem dX7_become_57 : decode cX7_become 57 = .ok (.aload_n 0, 1) := by decide +kernel
theorem dX7_become_58 : decode cX7_become 58 = .ok (.getfield 18, 3) := by decide +kernel
theorem dX7_become_61 : decode cX7_become 61 = .ok (.iconst 0, 1) := by decide +kernel
theorem dX7_become_62 : decode cX7_become 62 = .ok (.aload_n 0, 1) := by decide +kernel
theorem dX7_become_63 : decode cX7_become 63 = .ok (.getfield 18, 3) := by decide +kernel
theorem dX7_become_66 : decode cX7_become 66 = .ok (.arraylength, 1) := by decide +kernel
theorem dX7_become_67 : decode cX7_become 67 = .ok (.invokestatic 59, 3) := by decide +kernel
theorem dX7_become_70 : decode cX7_become 70 = .ok (.aload_n 1, 1) := by decide +kernel
theorem dX7_become_71 : decode cX7_become 71 = .ok (.getfield 21, 3) := by decide +kernel
theorem dX7_become_74 : decode cX7_become 74 = .ok (.iconst 0, 1) := by decide +kernel
theorem dX7_become_75 : decode cX7_become 75 = .ok (.aload_n 0, 1) := by decide +kernel
theorem dX7_become_76 : decode cX7_become 76 = .ok (.getfield 21, 3) := by decide +kernel
theorem dX7_become_79 : decode cX7_become 79 = .ok (.iconst 0, 1) := by decide +kernel
theorem dX7_become_80 : decode cX7_become 80 = .ok (.aload_n 0, 1) := by decide +kernel
theorem dX7_become_81 : decode cX7_become 81 = .ok (.getfield 21, 3) := by decide +kernel
theorem dX7_become_84 : decode cX7_become 84 = .ok (.arraylength, 1) := by decide +kernel
theorem dX7_become_85 : decode cX7_become 85 = .ok (.invokestatic 59, 3) := by decide +kernel
theorem dX7_become_88 : decode cX7_become 88 = .ok (.aload_n 0, 1) := by decide +kernel
theorem dX7_become_89 : decode cX7_become 89 = .ok (.aload_n 1, 1) := by decide +kernel
theorem dX7_become_90 : decode cX7_become 90 = .ok (.getfield 65, 3) := by decide +kernel
theorem dX7_become_93 : decode cX7_become 93 = .ok (.putfield 65, 3) := by decide +kernel
theorem dX7_become_96 : decode cX7_become 96 = .ok (.aload_n 1, 1) := by decide +kernel
theorem dX7_become_97 : decode cX7_become 97 = .ok (.getfield 24, 3) := by decide +kernel
theorem dX7_become_100 : decode cX7_become 100 = .ok (.iconst 0, 1) := by decide +kernel
theorem dX7_become_101 : decode cX7_become 101 = .ok (.aload_n 0, 1) := by decide +kernel
theorem dX7_become_102 : decode cX7_become 102 = .ok (.getfield 24, 3) := by decide +kernel
theorem dX7_become_105 : decode cX7_become 105 = .ok (.iconst 0, 1) := by decide +kernel
theorem dX7_become_106 : decode cX7_become 106 = .ok (.aload_n 0, 1) := by decide +kernel
theorem dX7_become_107 : decode cX7_become 107 = .ok (.getfield 24, 3) := by decide +kernel
theorem dX7_become_110 : decode cX7_become 110 = .ok (.arraylength, 1) := by decide +kernel
theorem dX7_become_111 : decode cX7_become 111 = .ok (.invokestatic 59, 3) := by decide +kernel
theorem dX7_become_114 : decode cX7_become 114 = .ok (.iconst 0, 1) := by decide +kernel
theorem dX7_become_115 : decode cX7_become 115 = .ok (.istore_n 2, 1) := by decide +kernel
theorem dX7_become_116 : decode cX7_become 116 = .ok (.iload_n 2, 1) := by decide +kernel
theorem dX7_become_117 : decode cX7_become 117 = .ok (.bipush 6, 2) := by decide +kernel
theorem dX7_become_119 : decode cX7_become 119 = .ok (.if_icmp .ge 21, 3) := by decide +kernel
theorem dX7_become_122 : decode cX7_become 122 = .ok (.aload_n 0, 1) := by decide +kernel
theorem dX7_become_123 : decode cX7_become 123 = .ok (.getfield 29, 3) := by decide +kernel
theorem dX7_become_126 : decode cX7_become 126 = .ok (.iload_n 2, 1) := by decide +kernel
theorem dX7_become_127 : decode cX7_become 127 = .ok (.aload_n 1, 1) := by decide +kernel
theorem dX7_become_128 : decode cX7_become 128 = .ok (.getfield 29, 3) := by decide +kernel
theorem dX7_become_131 : decode cX7_become 131 = .ok (.iload_n 2, 1) := by decide +kernel
theorem dX7_become_132 : decode cX7_become 132 = .ok (.aaload, 1) := by decide +kernel
theorem dX7_become_133 : decode cX7_become 133 = .ok (.aastore, 1) := by decide +kernel
theorem dX7_become_134 : decode cX7_become 134 = .ok (.iinc 2 1, 3) := by decide +kernel
theorem dX7_become_137 : decode cX7_become 137 = .ok (.goto (-21), 3) := by decide +kernel
theorem dX7_become_140 : decode cX7_become 140 = .ok (.aload_n 0, 1) := by decide +kernel
theorem dX7_become_141 : decode cX7_become 141 = .ok (.aload_n 1, 1) := by decide +kernel
theorem dX7_become_142 : decode cX7_become 142 = .ok (.getfield 56, 3) := by decide +kernel
theorem dX7_become_145 : decode cX7_become 145 = .ok (.putfield 56, 3) := by decide +kernel
theorem dX7_become_148 : decode cX7_become 148 = .ok (.aload_n 0, 1) := by decide +kernel
theorem dX7_become_149 : decode cX7_become 149 = .ok (.aload_n 1, 1) := by decide +kernel
theorem dX7_become_150 : decode cX7_become 150 = .ok (.getfield 33, 3) := by decide +kernel
theorem dX7_become_153 : decode cX7_become 153 = .ok (.putfield 33, 3) := by decide +kernel
theorem dX7_become_156 : decode cX7_become 156 = .ok (.aload_n 1, 1) := by decide +kernel
theorem dX7_become_157 : decode cX7_become 157 = .ok (.getfield 37, 3) := by decide +kernel
theorem dX7_become_160 : decode cX7_become 160 = .ok (.iconst 0, 1) := by decide +kernel
theorem dX7_become_161 : decode cX7_become 161 = .ok (.aload_n 0, 1) := by decide +kernel
theorem dX7_become_162 : decode cX7_become 162 = .ok (.getfield 37, 3) := by decide +kernel
theorem dX7_become_165 : decode cX7_become 165 = .ok (.iconst 0, 1) := by decide +kernel
theorem dX7_become_166 : decode cX7_become 166 = .ok (.aload_n 0, 1) := by decide +kernel
theorem dX7_become_167 : decode cX7_become 167 = .ok (.getfield 37, 3) := by decide +kernel
theorem dX7_become_170 : decode cX7_become 170 = .ok (.arraylength, 1) := by decide +kernel
theorem dX7_become_171 : decode cX7_become 171 = .ok (.invokestatic 59, 3) := by decide +kernel
theorem dX7_become_174 : decode cX7_become 174 = .ok (.aload_n 0, 1) := by decide +kernel
theorem dX7_become_175 : decode cX7_become 175 = .ok (.aload_n 1, 1) := by decide +kernel
theorem dX7_become_176 : decode cX7_become 176 = .ok (.getfield 68, 3) := by decide +kernel
theorem dX7_become_179 : decode cX7_become 179 = .ok (.putfield 68, 3) := by decide +kernel
theorem dX7_become_182 : decode cX7_become 182 = .ok (.aload_n 1, 1) := by decide +kernel
theorem dX7_become_183 : decode cX7_become 183 = .ok (.getfield 40, 3) := by decide +kernel
theorem dX7_become_186 : decode cX7_become 186 = .ok (.iconst 0, 1) := by decide +kernel
theorem dX7_become_187 : decode cX7_become 187 = .ok (.aload_n 0, 1) := by decide +kernel
theorem dX7_become_188 : decode cX7_become 188 = .ok (.getfield 40, 3) := by decide +kernel
theorem dX7_become_191 : decode cX7_become 191 = .ok (.iconst 0, 1) := by decide +kernel
theorem dX7_become_192 : decode cX7_become 192 = .ok (.aload_n 0, 1) := by decide +kernel
theorem dX7_become_193 : decode cX7_become 193 = .ok (.getfield 40, 3) := by decide +kernel
theorem dX7_become_196 : decode cX7_become 196 = .ok (.arraylength, 1) := by decide +kernel
theorem dX7_become_197 : decode cX7_become 197 = .ok (.invokestatic 59, 3) := by decide +kernel
theorem dX7_become_200 : decode cX7_become 200 = .ok (.aload_n 0, 1) := by decide +kernel
theorem dX7_become_201 : decode cX7_become 201 = .ok (.aload_n 1, 1) := by decide +kernel
theorem dX7_become_202 : decode cX7_become 202 = .ok (.getfield 71, 3) := by decide +kernel
theorem dX7_become_205 : decode cX7_become 205 = .ok (.putfield 71, 3) := by decide +kernel
theorem dX7_become_208 : decode cX7_become 208 = .ok (.return_, 1) := by decide +kernel
def bX7_become_0 (l : Launch) (E : Ev) (d : Nat) (Q : Option Value → Hp → Prop) : Kt := k_aload 0 (k_aload 1 (k_getI 7 15 0 (k_putI 7 15 0 (k_aload 0 (k_aload 1 (k_getI 7 15 1 (k_putI 7 15 1 (k_aload 1 (k_getR 7 15 2 (k_push (.int 0) (k_aload 0 (k_getR 7 15 2 (k_push (.int 0) (k_aload 0 (k_getR 7 15 2 (k_alen (k_copyI (k_aload 1 (k_getR 7 15 3 (k_push (.int 0) (k_aload 0 (k_getR 7 15 3 (k_push (.int 0) (k_aload 0 (k_getR 7 15 3 (k_alen (k_copyI (k_aload 1 (k_getR 7 15 4 (k_push (.int 0) (k_aload 0 (k_getR 7 15 4 (k_push (.int 0) (k_aload 0 (k_getR 7 15 4 (k_alen (k_copyI (k_aload 1 (k_getR 7 15 5 (k_push (.int 0) (k_aload 0 (k_getR 7 15 5 (k_push (.int 0) (k_aload 0 (k_getR 7 15 5 (k_alen (k_copyI (k_aload 0 (k_aload 1 (k_getI 7 15 6 (k_putI 7 15 6 (k_aload 1 (k_getR 7 15 7 (k_push (.int 0) (k_aload 0 (k_getR 7 15 7 (k_push (.int 0) (k_aload 0 (k_getR 7 15 7 (k_alen (k_copyI (k_push (.int 0) (k_istore 2 (Go l E YX7_become (d + 1) 0 0 Q 0 0 116))))))))))))))))))))))))))))))))))))))))))))))))))))))))))))))))
set_option maxRecDepth 100000 in
set_option maxHeartbeats 4000000 in
theorem gX7_become_0 {l : Launch} {E : Ev} {d : Nat} {Q : Option Value → Hp → Prop} {ls : Lv} {st : List Value} {h : Hp} (hB : bX7_become_0 l E d Q ls st h) : Go l E YX7_become (d + 1) 0 0 Q 0 0 0 ls st h :=
  (sd_aload_n (i := 0) rfl dX7_become_0 (sd_aload_n (i := 1) rfl dX7_become_1 (sd_getI clsX7 (f := 0) (by decide) (fun _ _ _ => rfl) mw_136 dX7_become_2 (sd_putI clsX7 (f := 0) (by decide) (fun _ _ _ => rfl) rfl (Or.inl rfl) mw_136 dX7_become_5 (sd_aload_n (i := 0) rfl dX7_become_8 (sd_aload_n (i := 1) rfl dX7_become_9 (sd_getI clsX7 (f := 1) (by decide) (fun _ _ _ => rfl) mw_142 dX7_become_10 (sd_putI clsX7 (f := 1) (by decide) (fun _ _ _ => rfl) rfl (Or.inl rfl) mw_142 dX7_become_13 (sd_aload_n (i := 1) rfl dX7_become_16 (sd_getR clsX7 (f := 2) (by decide) (fun _ _ _ => rfl) mw_144 dX7_become_17 (sd_iconst (v := 0) (by decide) dX7_become_20 (sd_aload_n (i := 0) rfl dX7_become_21 (sd_getR clsX7 (f := 2) (by decide) (fun _ _ _ => rfl) mw_144 dX7_become_22 (sd_iconst (v := 0) (by decide) dX7_become_25 (sd_aload_n (i := 0) rfl dX7_become_26 (sd_getR clsX7 (f := 2) (by decide) (fun _ _ _ => rfl) mw_144 dX7_become_27 (sd_alen dX7_become_30 (sd_copyI mw_1046 mw_744 mw_743 mw_116 (by omega) dX7_become_31 (sd_aload_n (i := 1) rfl dX7_become_34 (sd_getR clsX7 (f := 3) (by decide) (fun _ _ _ => rfl) mw_150 dX7_become_35 (sd_iconst (v := 0) (by decide) dX7_become_38 (sd_aload_n (i := 0) rfl dX7_become_39 (sd_getR clsX7 (f := 3) (by decide) (fun _ _ _ => rfl) mw_150 dX7_become_40 (sd_iconst (v := 0) (by decide) dX7_become_43 (sd_aload_n (i := 0) rfl dX7_become_44 (sd_getR clsX7 (f := 3) (by decide) (fun _ _ _ => rfl) mw_150 dX7_become_45 (sd_alen dX7_become_48 (sd_copyI mw_1046 mw_744 mw_743 mw_116 (by omega) dX7_become_49 (sd_aload_n (i := 1) rfl dX7_become_52 (sd_getR clsX7 (f := 4) (by decide) (fun _ _ _ => rfl) mw_153 dX7_become_53 (sd_iconst (v := 0) (by decide) dX7_become_56 (sd_aload_n (i := 0) rfl dX7_become_57 (sd_getR clsX7 (f := 4) (by decide) (fun _ _ _ => rfl) mw_153 dX7_become_58 (sd_iconst (v := 0) (by decide) dX7_become_61 (sd_aload_n (i := 0) rfl dX7_become_62 (sd_getR clsX7 (f := 4) (by decide) (fun _ _ _ => rfl) mw_153 dX7_become_63 (sd_alen dX7_become_66 (sd_copyI mw_1046 mw_744 mw_743 mw_116 (by omega) dX7_become_67 (sd_aload_n (i := 1) rfl dX7_become_70 (sd_getR clsX7 (f := 5) (by decide) (fun _ _ _ => rfl) mw_156 dX7_become_71 (sd_iconst (v := 0) (by decide) dX7_become_74 (sd_aload_n (i := 0) rfl dX7_become_75 (sd_getR clsX7 (f := 5) (by decide) (fun _ _ _ => rfl) mw_156 dX7_become_76 (sd_iconst (v := 0) (by decide) dX7_become_79 (sd_aload_n (i := 0) rfl dX7_become_80 (sd_getR clsX7 (f := 5) (by decide) (fun _ _ _ => rfl) mw_156 dX7_become_81 (sd_alen dX7_become_84 (sd_copyI mw_1046 mw_744 mw_743 mw_116 (by omega) dX7_become_85 (sd_aload_n (i := 0) rfl dX7_become_88 (sd_aload_n (i := 1) rfl dX7_become_89 (sd_getI clsX7 (f := 6) (by decide) (fun _ _ _ => rfl) mw_160 dX7_become_90 (sd_putI clsX7 (f := 6) (by decide) (fun _ _ _ => rfl) rfl (Or.inl rfl) mw_160 dX7_become_93 (sd_aload_n (i := 1) rfl dX7_become_96 (sd_getR clsX7 (f := 7) (by decide) (fun _ _ _ => rfl) mw_162 dX7_become_97 (sd_iconst (v := 0) (by decide) dX7_become_100 (sd_aload_n (i := 0) rfl dX7_become_101 (sd_getR clsX7 (f := 7) (by decide) (fun _ _ _ => rfl) mw_162 dX7_become_102 (sd_iconst (v := 0) (by decide) dX7_become_105 (sd_aload_n (i := 0) rfl dX7_become_106 (sd_getR clsX7 (f := 7) (by decide) (fun _ _ _ => rfl) mw_162 dX7_become_107 (sd_alen dX7_become_110 (sd_copyI mw_1046 mw_744 mw_743 mw_116 (by omega) dX7_become_111 (sd_iconst (v := 0) (by decide) dX7_become_114 (sd_istore_n (i := 2) rfl (by decide) dX7_become_115 (Sd.go)))))))))))))))))))))))))))))))))))))))))))))))))))))))))))))))) : Sd l E YX7_become (d + 1) 0 0 Q 0 0 0 (bX7_become_0 l E d Q)) ls st h hB
def bX7_become_116 (l : Launch) (E : Ev) (d : Nat) (Q : Option Value → Hp → Prop) : Kt := k_iload 2 (k_push (.int 6) (k_icmp_ge (k_aload 0 (k_aload 1 (k_getI 7 15 9 (k_putI 7 15 9 (k_aload 0 (k_aload 1 (k_getI 7 15 10 (k_putI 7 15 10 (k_aload 1 (k_getR 7 15 11 (k_push (.int 0) (k_aload 0 (k_getR 7 15 11 (k_push (.int 0) (k_aload 0 (k_getR 7 15 11 (k_alen (k_copyI (k_aload 0 (k_aload 1 (k_getI 7 15 12 (k_putI 7 15 12 (k_aload 1 (k_getR 7 15 13 (k_push (.int 0) (k_aload 0 (k_getR 7 15 13 (k_push (.int 0) (k_aload 0 (k_getR 7 15 13 (k_alen (k_copyI (k_aload 0 (k_aload 1 (k_getI 7 15 14 (k_putI 7 15 14 (k_vret Q))))))))))))))))))))))))))))))))))))) (k_aload 0 (k_getR 7 15 8 (k_iload 2 (k_aload 1 (k_getR 7 15 8 (k_iload 2 (k_aaload 4 (k_aastore 4 2 3 (k_iinc 2 1 (Go l E YX7_become (d + 1) 0 0 Q 0 0 116))))))))))))
set_option maxRecDepth 100000 in
set_option maxHeartbeats 4000000 in
theorem gX7_become_116 {l : Launch} {E : Ev} {d : Nat} {Q : Option Value → Hp → Prop} {ls : Lv} {st : List Value} {h : Hp} (hB : bX7_become_116 l E d Q ls st h) : Go l E YX7_become (d + 1) 0 0 Q 0 0 116 ls st h :=
  (sd_iload_n (i := 2) rfl dX7_become_116 (sd_bipush (v := 6) (by decide) dX7_become_117 (sd_icmp_ge (tgt := 140) (by decide) dX7_become_119 (sd_aload_n (i := 0) rfl dX7_become_140 (sd_aload_n (i := 1) rfl dX7_become_141 (sd_getI clsX7 (f := 9) (by decide) (fun _ _ _ => rfl) mw_169 dX7_become_142 (sd_putI clsX7 (f := 9) (by decide) (fun _ _ _ => rfl) rfl (Or.inl rfl) mw_169 dX7_become_145 (sd_aload_n (i := 0) rfl dX7_become_148 (sd_aload_n (i := 1) rfl dX7_become_149 (sd_getI clsX7 (f := 10) (by decide) (fun _ _ _ => rfl) mw_171 dX7_become_150 (sd_putI clsX7 (f := 10) (by decide) (fun _ _ _ => rfl) rfl (Or.inl rfl) mw_171 dX7_become_153 (sd_aload_n (i := 1) rfl dX7_become_156 (sd_getR clsX7 (f := 11) (by decide) (fun _ _ _ => rfl) mw_173 dX7_become_157 (sd_iconst (v := 0) (by decide) dX7_become_160 (sd_aload_n (i := 0) rfl dX7_become_161 (sd_getR clsX7 (f := 11) (by decide) (fun _ _ _ => rfl) mw_173 dX7_become_162 (sd_iconst (v := 0) (by decide) dX7_become_165 (sd_aload_n (i := 0) rfl dX7_become_166 (sd_getR clsX7 (f := 11) (by decide) (fun _ _ _ => rfl) mw_173 dX7_become_167 (sd_alen dX7_become_170 (sd_copyI mw_1046 mw_744 mw_743 mw_116 (by omega) dX7_become_171 (sd_aload_n (i := 0) rfl dX7_become_174 (sd_aload_n (i := 1) rfl dX7_become_175 (sd_getI clsX7 (f := 12) (by decide) (fun _ _ _ => rfl) mw_177 dX7_become_176 (sd_putI clsX7 (f := 12) (by decide) (fun _ _ _ => rfl) rfl (Or.inl rfl) mw_177 dX7_become_179 (sd_aload_n (i := 1) rfl dX7_become_182 (sd_getR clsX7 (f := 13) (by decide) (fun _ _ _ => rfl) mw_179 dX7_become_183 (sd_iconst (v := 0) (by decide) dX7_become_186 (sd_aload_n (i := 0) rfl dX7_become_187 (sd_getR clsX7 (f := 13) (by decide) (fun _ _ _ => rfl) mw_179 dX7_become_188 (sd_iconst (v := 0) (by decide) dX7_become_191 (sd_aload_n (i := 0) rfl dX7_become_192 (sd_getR clsX7 (f := 13) (by decide) (fun _ _ _ => rfl) mw_179 dX7_become_193 (sd_alen dX7_become_196 (sd_copyI mw_1046 mw_744 mw_743 mw_116 (by omega) dX7_become_197 (sd_aload_n (i := 0) rfl dX7_become_200 (sd_aload_n (i := 1) rfl dX7_become_201 (sd_getI clsX7 (f := 14) (by decide) (fun _ _ _ => rfl) mw_181 dX7_become_202 (sd_putI clsX7 (f := 14) (by decide) (fun _ _ _ => rfl) rfl (Or.inl rfl) mw_181 dX7_become_205 (sd_vret rfl (by decide) (by decide) dX7_become_208))))))))))))))))))))))))))))))))))))) (sd_aload_n (i := 0) rfl dX7_become_122 (sd_getR clsX7 (f := 8) (by decide) (fun _ _ _ => rfl) mw_167 dX7_become_123 (sd_iload_n (i := 2) rfl dX7_become_126 (sd_aload_n (i := 1) rfl dX7_become_127 (sd_getR clsX7 (f := 8) (by decide) (fun _ _ _ => rfl) mw_167 dX7_become_128 (sd_iload_n (i := 2) rfl dX7_become_131 (sd_aaload (ki := 4) (by decide) dX7_become_132 (sd_aastore (ki := 4) (ci := 2) (N := 3) (by decide) dX7_become_133 (sd_iinc (i := 2) (v := 1) (by decide) (by decide) dX7_become_134 (sd_goto (tgt := 116) (by decide) dX7_become_137 (Sd.go))))))))))))) : Sd l E YX7_become (d + 1) 0 0 Q 0 0 116 (bX7_become_116 l E d Q)) ls st h hB
theorem eX7_become {l : Launch} {E : Ev} {d : Nat} {Q : Option Value → Hp → Prop} {h : Hp} {a0 : Nat} {x1 : Nat} (hk : Go l E YX7_become d 0 0 Q 0 0 0 [some (.ref a0), some (.ref x1), none] [] h) : GoM l E YX7_become d 0 0 [.ref a0, .ref x1] h Q := GoM.of (by decide +kernel) rfl (by simp [entA, YX7_become]) hk
theorem dX7_raise_0 : decode cX7_raise 0 = .ok (.iconst 0, 1) := by decide +kernel
theorem dX7_raise_1 : decode cX7_raise 1 = .ok (.istore_n 3, 1) := by decide +kernel
theorem dX7_raise_2 : decode cX7_raise 2 = .ok (.iconst 0, 1) := by decide +kernel
theorem dX7_raise_3 : decode cX7_raise 3 = .ok (.istore 4, 2) := by decide +kernel
theorem dX7_raise_5 : decode cX7_raise 5 = .ok (.iload 4, 2) := by decide +kernel
theorem dX7_raise_7 : decode cX7_raise 7 = .ok (.aload_n 0, 1) := by decide +kernel
theorem dX7_raise_8 : decode cX7_raise 8 = .ok (.getfield 68, 3) := by decide +kernel
theorem dX7_raise_11 : decode cX7_raise 11 = .ok (.if_icmp .ge 76, 3) := by decide +kernel
theorem dX7_raise_14 : decode cX7_raise 14 = .ok (.aload_n 0, 1) := by decide +kernel
theorem dX7_raise_15 : decode cX7_raise 15 = .ok (.getfield 37, 3) := by decide +kernel
theorem dX7_raise_18 : decode cX7_raise 18 = .ok (.iload 4, 2) := by decide +kernel
theorem dX7_raise_20 : decode cX7_raise 20 = .ok (.iconst 4, 1) := by decide +kernel
theorem dX7_raise_21 : decode cX7_raise 21 = .ok (.imul, 1) := by decide +kernel
theorem dX7_raise_22 : decode cX7_raise 22 = .ok (.iaload, 1) := by decide +kernel
theorem dX7_raise_23 : decode cX7_raise 23 = .ok (.bipush 8, 2) := by decide +kernel
theorem dX7_raise_25 : decode cX7_raise 25 = .ok (.imul, 1) := by decide +kernel
theorem dX7_raise_26 : decode cX7_raise 26 = .ok (.aload_n 0, 1) := by decide +kernel
theorem dX7_raise_27 : decode cX7_raise 27 = .ok (.getfield 37, 3) := by decide +kernel
theorem dX7_raise_30 : decode cX7_raise 30 = .ok (.iload 4, 2) := by decide +kernel
theorem dX7_raise_32 : decode cX7_raise 32 = .ok (.iconst 4, 1) := by decide +kernel
theorem dX7_raise_33 : decode cX7_raise 33 = .ok (.imul, 1) := by decide +kernel
theorem dX7_raise_34 : decode cX7_raise 34 = .ok (.iconst 1, 1) := by decide +kernel
theorem dX7_raise_35 : decode cX7_raise 35 = .ok (.iadd, 1) := by decide +kernel
theorem dX7_raise_36 : decode cX7_raise 36 = .ok (.iaload, 1) := by decide +kernel
theorem dX7_raise_37 : decode cX7_raise 37 = .ok (.iadd, 1) := by decide +kernel
theorem dX7_raise_38 : decode cX7_raise 38 = .ok (.istore 5, 2) := by decide +kernel
theorem dX7_raise_40 : decode cX7_raise 40 = .ok (.aload_n 0, 1) := by decide +kernel
theorem dX7_raise_41 : decode cX7_raise 41 = .ok (.getfield 37, 3) := by decide +kernel
theorem dX7_raise_44 : decode cX7_raise 44 = .ok (.iload 4, 2) := by decide +kernel
theorem dX7_raise_46 : decode cX7_raise 46 = .ok (.iconst 4, 1) := by decide +kernel
theorem dX7_raise_47 : decode cX7_raise 47 = .ok (.imul, 1) := by decide +kernel
theorem dX7_raise_48 : decode cX7_raise 48 = .ok (.iconst 2, 1) := by decide +kernel
theorem dX7_raise_49 : decode cX7_raise 49 = .ok (.iadd, 1) := by decide +kernel
theorem dX7_raise_50 : decode cX7_raise 50 = .ok (.iaload, 1) := by decide +kernel
theorem dX7_raise_51 : decode cX7_raise 51 = .ok (.istore 6, 2) := by decide +kernel
theorem dX7_raise_53 : decode cX7_raise 53 = .ok (.iload_n 2, 1) := by decide +kernel
theorem dX7_raise_54 : decode cX7_raise 54 = .ok (.iload 4, 2) := by decide +kernel
theorem dX7_raise_56 : decode cX7_raise 56 = .ok (.ishr, 1) := by decide +kernel
theorem dX7_raise_57 : decode cX7_raise 57 = .ok (.iconst 1, 1) := by decide +kernel
theorem dX7_raise_58 : decode cX7_raise 58 = .ok (.iand, 1) := by decide +kernel
theorem dX7_raise_59 : decode cX7_raise 59 = .ok (.iconst 1, 1) := by decide +kernel
theorem dX7_raise_60 : decode cX7_raise 60 = .ok (.if_icmp .ne 21, 3) := by decide +kernel
theorem dX7_raise_63 : decode cX7_raise 63 = .ok (.aload_n 1, 1) := by decide +kernel
theorem dX7_raise_64 : decode cX7_raise 64 = .ok (.iload 5, 2) := by decide +kernel
theorem dX7_raise_66 : decode cX7_raise 66 = .ok (.iaload, 1) := by decide +kernel
theorem dX7_raise_67 : decode cX7_raise 67 = .ok (.iload 6, 2) := by decide +kernel
theorem dX7_raise_69 : decode cX7_raise 69 = .ok (.if_icmp .ge 12, 3) := by decide +kernel
theorem dX7_raise_72 : decode cX7_raise 72 = .ok (.aload_n 1, 1) := by decide +kernel
theorem dX7_raise_73 : decode cX7_raise 73 = .ok (.iload 5, 2) := by decide +kernel
theorem dX7_raise_75 : decode cX7_raise 75 = .ok (.iload 6, 2) := by decide +kernel
theorem dX7_raise_77 : decode cX7_raise 77 = .ok (.iastore, 1) := by decide +kernel
theorem dX7_raise_78 : decode cX7_raise 78 = .ok (.iinc 3 1, 3) := by decide +kernel
theorem dX7_raise_81 : decode cX7_raise 81 = .ok (.iinc 4 1, 3) := by decide +kernel
theorem dX7_raise_84 : decode cX7_raise 84 = .ok (.goto (-79), 3) := by decide +kernel
theorem dX7_raise_87 : decode cX7_raise 87 = .ok (.iload_n 3, 1) := by decide +kernel
theorem dX7_raise_88 : decode cX7_raise 88 = .ok (.ireturn, 1) := by decide +kernel
def bX7_raise_0 (l : Launch) (E : Ev) (d : Nat) (Q : Option Value → Hp → Prop) : Kt := k_push (.int 0) (k_istore 3 (k_push (.int 0) (k_istore 4 (Go l E YX7_raise (d + 1) 0 0 Q 0 0 5))))
set_option maxRecDepth 100000 in
set_option maxHeartbeats 4000000 in
theorem gX7_raise_0 {l : Launch} {E : Ev} {d : Nat} {Q : Option Value → Hp → Prop} {ls : Lv} {st : List Value} {h : Hp} (hB : bX7_raise_0 l E d Q ls st h) : Go l E YX7_raise (d + 1) 0 0 Q 0 0 0 ls st h :=
  (sd_iconst (v := 0) (by decide) dX7_raise_0 (sd_istore_n (i := 3) rfl (by decide) dX7_raise_1 (sd_iconst (v := 0) (by decide) dX7_raise_2 (sd_istore (i := 4) (by decide) dX7_raise_3 (Sd.go)))) : Sd l E YX7_raise (d + 1) 0 0 Q 0 0 0 (bX7_raise_0 l E d Q)) ls st h hB
def bX7_raise_5 (l : Launch) (E : Ev) (d : Nat) (Q : Option Value → Hp → Prop) : Kt := k_iload 4 (k_aload 0 (k_getI 7 15 12 (k_icmp_ge (k_iload 3 (k_iret .int Q)) (k_aload 0 (k_getR 7 15 11 (k_iload 4 (k_push (.int 4) (k_imul (k_iaload (k_push (.int 8) (k_imul (k_aload 0 (k_getR 7 15 11 (k_iload 4 (k_push (.int 4) (k_imul (k_push (.int 1) (k_iadd (k_iaload (k_iadd (k_istore 5 (k_aload 0 (k_getR 7 15 11 (k_iload 4 (k_push (.int 4) (k_imul (k_push (.int 2) (k_iadd (k_iaload (k_istore 6 (k_iload 2 (k_iload 4 (k_ishr (k_push (.int 1) (k_iand (k_push (.int 1) (k_icmp_ne (k_iinc 4 1 (Go l E YX7_raise (d + 1) 0 0 Q 0 0 5)) (k_aload 1 (k_iload 5 (k_iaload (k_iload 6 (k_icmp_ge (k_iinc 4 1 (Go l E YX7_raise (d + 1) 0 0 Q 0 0 5)) (k_aload 1 (k_iload 5 (k_iload 6 (k_iastore (k_iinc 3 1 (k_iinc 4 1 (Go l E YX7_raise (d + 1) 0 0 Q 0 0 5)))))))))))))))))))))))))))))))))))))))))))))))))
set_option maxRecDepth 100000 in
set_option maxHeartbeats 4000000 in
theorem gX7_raise_5 {l : Launch} {E : Ev} {d : Nat} {Q : Option Value → Hp → Prop} {ls : Lv} {st : List Value} {h : Hp} (hB : bX7_raise_5 l E d Q ls st h) : Go l E YX7_raise (d + 1) 0 0 Q 0 0 5 ls st h :=
  (sd_iload (n := 4) dX7_raise_5 (sd_aload_n (i := 0) rfl dX7_raise_7 (sd_getI clsX7 (f := 12) (by decide) (fun _ _ _ => rfl) mw_177 dX7_raise_8 (sd_icmp_ge (tgt := 87) (by decide) dX7_raise_11 (sd_iload_n (i := 3) rfl dX7_raise_87 (sd_iret (ty := .int) rfl (by decide) (by decide) dX7_raise_88)) (sd_aload_n (i := 0) rfl dX7_raise_14 (sd_getR clsX7 (f := 11) (by decide) (fun _ _ _ => rfl) mw_173 dX7_raise_15 (sd_iload (n := 4) dX7_raise_18 (sd_iconst (v := 4) (by decide) dX7_raise_20 (sd_imul dX7_raise_21 (sd_iaload dX7_raise_22 (sd_bipush (v := 8) (by decide) dX7_raise_23 (sd_imul dX7_raise_25 (sd_aload_n (i := 0) rfl dX7_raise_26 (sd_getR clsX7 (f := 11) (by decide) (fun _ _ _ => rfl) mw_173 dX7_raise_27 (sd_iload (n := 4) dX7_raise_30 (sd_iconst (v := 4) (by decide) dX7_raise_32 (sd_imul dX7_raise_33 (sd_iconst (v := 1) (by decide) dX7_raise_34 (sd_iadd dX7_raise_35 (sd_iaload dX7_raise_36 (sd_iadd dX7_raise_37 (sd_istore (i := 5) (by decide) dX7_raise_38 (sd_aload_n (i := 0) rfl dX7_raise_40 (sd_getR clsX7 (f := 11) (by decide) (fun _ _ _ => rfl) mw_173 dX7_raise_41 (sd_iload (n := 4) dX7_raise_44 (sd_iconst (v := 4) (by decide) dX7_raise_46 (sd_imul dX7_raise_47 (sd_iconst (v := 2) (by decide) dX7_raise_48 (sd_iadd dX7_raise_49 (sd_iaload dX7_raise_50 (sd_istore (i := 6) (by decide) dX7_raise_51 (sd_iload_n (i := 2) rfl dX7_raise_53 (sd_iload (n := 4) dX7_raise_54 (sd_ishr dX7_raise_56 (sd_iconst (v := 1) (by decide) dX7_raise_57 (sd_iand dX7_raise_58 (sd_iconst (v := 1) (by decide) dX7_raise_59 (sd_icmp_ne (tgt := 81) (by decide) dX7_raise_60 (sd_iinc (i := 4) (v := 1) (by decide) (by decide) dX7_raise_81 (sd_goto (tgt := 5) (by decide) dX7_raise_84 (Sd.go))) (sd_aload_n (i := 1) rfl dX7_raise_63 (sd_iload (n := 5) dX7_raise_64 (sd_iaload dX7_raise_66 (sd_iload (n := 6) dX7_raise_67 (sd_icmp_ge (tgt := 81) (by decide) dX7_raise_69 (sd_iinc (i := 4) (v := 1) (by decide) (by decide) dX7_raise_81 (sd_goto (tgt := 5) (by decide) dX7_raise_84 (Sd.go))) (sd_aload_n (i := 1) rfl dX7_raise_72 (sd_iload (n := 5) dX7_raise_73 (sd_iload (n := 6) dX7_raise_75 (sd_iastore dX7_raise_77 (sd_iinc (i := 3) (v := 1) (by decide) (by decide) dX7_raise_78 (sd_iinc (i := 4) (v := 1) (by decide) (by decide) dX7_raise_81 (sd_goto (tgt := 5) (by decide) dX7_raise_84 (Sd.go)))))))))))))))))))))))))))))))))))))))))))))))))) : Sd l E YX7_raise (d + 1) 0 0 Q 0 0 5 (bX7_raise_5 l E d Q)) ls st h hB
theorem eX7_raise {l : Launch} {E : Ev} {d : Nat} {Q : Option Value → Hp → Prop} {h : Hp} {a0 : Nat} {x1 : Nat} {x2 : Int32} (hk : Go l E YX7_raise d 0 0 Q 0 0 0 [some (.ref a0), some (.ref x1), some (.int x2), none, none, none, none] [] h) : GoM l E YX7_raise d 0 0 [.ref a0, .ref x1, .int x2] h Q := GoM.of (by decide +kernel) rfl (by simp [entA, YX7_raise]) hk
theorem dX7_removeLessons_0 : decode cX7_removeLessons 0 = .ok (.iconst 0, 1) := by decide +kernel
theorem dX7_removeLessons_1 : decode cX7_removeLessons 1 = .ok (.istore_n 2, 1) := by decide +kernel
theorem dX7_removeLessons_2 : decode cX7_removeLessons 2 = .ok (.iconst 0, 1) := by decide +kernel
theorem dX7_removeLessons_3 : decode cX7_removeLessons 3 = .ok (.istore_n 3, 1) := by decide +kernel
theorem dX7_removeLessons_4 : decode cX7_removeLessons 4 = .ok (.iload_n 3, 1) := by decide +kernel
theorem dX7_removeLessons_5 : decode cX7_removeLessons 5 = .ok (.aload_n 0, 1) := by decide +kernel
theorem dX7_removeLessons_6 : decode cX7_removeLessons 6 = .ok (.getfield 68, 3) := by decide +kernel
theorem dX7_removeLessons_9 : decode cX7_removeLessons 9 = .ok (.if_icmp .ge 38, 3) := by decide +kernel
theorem dX7_removeLessons_12 : decode cX7_removeLessons 12 = .ok (.iload_n 1, 1) := by decide +kernel
theorem dX7_removeLessons_13 : decode cX7_removeLessons 13 = .ok (.iload_n 3, 1) := by decide +kernel
theorem dX7_removeLessons_14 : decode cX7_removeLessons 14 = .ok (.ishr, 1) := by decide +kernel
theorem dX7_removeLessons_15 : decode cX7_removeLessons 15 = .ok (.iconst 1, 1) := by decide +kernel
theorem dX7_removeLessons_16 : decode cX7_removeLessons 16 = .ok (.iand, 1) := by decide +kernel
theorem dX7_removeLessons_17 : decode cX7_removeLessons 17 = .ok (.ifCond .ne 24, 3) := by decide +kernel
theorem dX7_removeLessons_20 : decode cX7_removeLessons 20 = .ok (.aload_n 0, 1) := by decide +kernel
theorem dX7_removeLessons_21 : decode cX7_removeLessons 21 = .ok (.getfield 37, 3) := by decide +kernel
theorem dX7_removeLessons_24 : decode cX7_removeLessons 24 = .ok (.iload_n 3, 1) := by decide +kernel
theorem dX7_removeLessons_25 : decode cX7_removeLessons 25 = .ok (.iconst 4, 1) := by decide +kernel
theorem dX7_removeLessons_26 : decode cX7_removeLessons 26 = .ok (.imul, 1) := by decide +kernel
theorem dX7_removeLessons_27 : decode cX7_removeLessons 27 = .ok (.aload_n 0, 1) := by decide +kernel
theorem dX7_removeLessons_28 : decode cX7_removeLessons 28 = .ok (.getfield 37, 3) := by decide +kernel
theorem dX7_removeLessons_31 : decode cX7_removeLessons 31 = .ok (.iload_n 2, 1) := by decide +kernel
theorem dX7_removeLessons_32 : decode cX7_removeLessons 32 = .ok (.iconst 4, 1) := by decide +kernel
theorem dX7_removeLessons_33 : decode cX7_removeLessons 33 = .ok (.imul, 1) := by decide +kernel
theorem dX7_removeLessons_34 : decode cX7_removeLessons 34 = .ok (.iconst 4, 1) := by decide +kernel
theorem dX7_removeLessons_35 : decode cX7_removeLessons 35 = .ok (.invokestatic 59, 3) := by decide +kernel
theorem dX7_removeLessons_38 : decode cX7_removeLessons 38 = .ok (.iinc 2 1, 3) := by decide +kernel
theorem dX7_removeLessons_41 : decode cX7_removeLessons 41 = .ok (.iinc 3 1, 3) := by decide +kernel
theorem dX7_removeLessons_44 : decode cX7_removeLessons 44 = .ok (.goto (-40), 3) := by decide +kernel
theorem dX7_removeLessons_47 : decode cX7_removeLessons 47 = .ok (.aload_n 0, 1) := by decide +kernel
theorem dX7_removeLessons_48 : decode cX7_removeLessons 48 = .ok (.iload_n 2, 1) := by decide +kernel
theorem dX7_removeLessons_49 : decode cX7_removeLessons 49 = .ok (.putfield 68, 3) := by decide +kernel
theorem dX7_removeLessons_52 : decode cX7_removeLessons 52 = .ok (.return_, 1) := by decide +kernel
def bX7_removeLessons_0 (l : Launch) (E : Ev) (d : Nat) (Q : Option Value → Hp → Prop) : Kt := k_push (.int 0) (k_istore 2 (k_push (.int 0) (k_istore 3 (Go l E YX7_removeLessons (d + 1) 0 0 Q 0 0 4))))
set_option maxRecDepth 100000 in
set_option maxHeartbeats 4000000 in
theorem gX7_removeLessons_0 {l : Launch} {E : Ev} {d : Nat} {Q : Option Value → Hp → Prop} {ls : Lv} {st : List Value} {h : Hp} (hB : bX7_removeLessons_0 l E d Q ls st h) : Go l E YX7_removeLessons (d + 1) 0 0 Q 0 0 0 ls st h :=
  (sd_iconst (v := 0) (by decide) dX7_removeLessons_0 (sd_istore_n (i := 2) rfl (by decide) dX7_removeLessons_1 (sd_iconst (v := 0) (by decide) dX7_removeLessons_2 (sd_istore_n (i := 3) rfl (by decide) dX7_removeLessons_3 (Sd.go)))) : Sd l E YX7_removeLessons (d + 1) 0 0 Q 0 0 0 (bX7_removeLessons_0 l E d Q)) ls st h hB
def bX7_removeLessons_4 (l : Launch) (E : Ev) (d : Nat) (Q : Option Value → Hp → Prop) : Kt := k_iload 3 (k_aload 0 (k_getI 7 15 12 (k_icmp_ge (k_aload 0 (k_iload 2 (k_putI 7 15 12 (k_vret Q)))) (k_iload 1 (k_iload 3 (k_ishr (k_push (.int 1) (k_iand (k_if_ne (k_iinc 3 1 (Go l E YX7_removeLessons (d + 1) 0 0 Q 0 0 4)) (k_aload 0 (k_getR 7 15 11 (k_iload 3 (k_push (.int 4) (k_imul (k_aload 0 (k_getR 7 15 11 (k_iload 2 (k_push (.int 4) (k_imul (k_push (.int 4) (k_copyI (k_iinc 2 1 (k_iinc 3 1 (Go l E YX7_removeLessons (d + 1) 0 0 Q 0 0 4))))))))))))))))))))))))
set_option maxRecDepth 100000 in
set_option maxHeartbeats 4000000 in
theorem gX7_removeLessons_4 {l : Launch} {E : Ev} {d : Nat} {Q : Option Value → Hp → Prop} {ls : Lv} {st : List Value} {h : Hp} (hB : bX7_removeLessons_4 l E d Q ls st h) : Go l E YX7_removeLessons (d + 1) 0 0 Q 0 0 4 ls st h :=
  (sd_iload_n (i := 3) rfl dX7_removeLessons_4 (sd_aload_n (i := 0) rfl dX7_removeLessons_5 (sd_getI clsX7 (f := 12) (by decide) (fun _ _ _ => rfl) mw_177 dX7_removeLessons_6 (sd_icmp_ge (tgt := 47) (by decide) dX7_removeLessons_9 (sd_aload_n (i := 0) rfl dX7_removeLessons_47 (sd_iload_n (i := 2) rfl dX7_removeLessons_48 (sd_putI clsX7 (f := 12) (by decide) (fun _ _ _ => rfl) rfl (Or.inl rfl) mw_177 dX7_removeLessons_49 (sd_vret rfl (by decide) (by decide) dX7_removeLessons_52)))) (sd_iload_n (i := 1) rfl dX7_removeLessons_12 (sd_iload_n (i := 3) rfl dX7_removeLessons_13 (sd_ishr dX7_removeLessons_14 (sd_iconst (v := 1) (by decide) dX7_removeLessons_15 (sd_iand dX7_removeLessons_16 (sd_if_ne (tgt := 41) (by decide) dX7_removeLessons_17 (sd_iinc (i := 3) (v := 1) (by decide) (by decide) dX7_removeLessons_41 (sd_goto (tgt := 4) (by decide) dX7_removeLessons_44 (Sd.go))) (sd_aload_n (i := 0) rfl dX7_removeLessons_20 (sd_getR clsX7 (f := 11) (by decide) (fun _ _ _ => rfl) mw_173 dX7_removeLessons_21 (sd_iload_n (i := 3) rfl dX7_removeLessons_24 (sd_iconst (v := 4) (by decide) dX7_removeLessons_25 (sd_imul dX7_removeLessons_26 (sd_aload_n (i := 0) rfl dX7_removeLessons_27 (sd_getR clsX7 (f := 11) (by decide) (fun _ _ _ => rfl) mw_173 dX7_removeLessons_28 (sd_iload_n (i := 2) rfl dX7_removeLessons_31 (sd_iconst (v := 4) (by decide) dX7_removeLessons_32 (sd_imul dX7_removeLessons_33 (sd_iconst (v := 4) (by decide) dX7_removeLessons_34 (sd_copyI mw_1046 mw_744 mw_743 mw_116 (by omega) dX7_removeLessons_35 (sd_iinc (i := 2) (v := 1) (by decide) (by decide) dX7_removeLessons_38 (sd_iinc (i := 3) (v := 1) (by decide) (by decide) dX7_removeLessons_41 (sd_goto (tgt := 4) (by decide) dX7_removeLessons_44 (Sd.go))))))))))))))))))))))))) : Sd l E YX7_removeLessons (d + 1) 0 0 Q 0 0 4 (bX7_removeLessons_4 l E d Q)) ls st h hB
theorem eX7_removeLessons {l : Launch} {E : Ev} {d : Nat} {Q : Option Value → Hp → Prop} {h : Hp} {a0 : Nat} {x1 : Int32} (hk : Go l E YX7_removeLessons d 0 0 Q 0 0 0 [some (.ref a0), some (.int x1), none, none] [] h) : GoM l E YX7_removeLessons d 0 0 [.ref a0, .int x1] h Q := GoM.of (by decide +kernel) rfl (by simp [entA, YX7_removeLessons]) hk
