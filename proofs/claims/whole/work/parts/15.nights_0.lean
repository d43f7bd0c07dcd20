theorem dX3_init_0 : decode cX3_init 0 = .ok (.aload_n 0, 1) := by decide +kernel
theorem dX3_init_1 : decode cX3_init 1 = .ok (.invokespecial 3, 3) := by decide +kernel
theorem dX3_init_4 : decode cX3_init 4 = .ok (.aload_n 0, 1) := by decide +kernel
theorem dX3_init_5 : decode cX3_init 5 = .ok (.sipush 2304, 3) := by decide +kernel
theorem dX3_init_8 : decode cX3_init 8 = .ok (.newarray .long, 2) := by decide +kernel
theorem dX3_init_10 : decode cX3_init 10 = .ok (.putfield 9, 3) := by decide +kernel
theorem dX3_init_13 : decode cX3_init 13 = .ok (.aload_n 0, 1) := by decide +kernel
theorem dX3_init_14 : decode cX3_init 14 = .ok (.bipush 8, 2) := by decide +kernel
theorem dX3_init_16 : decode cX3_init 16 = .ok (.newarray .int, 2) := by decide +kernel
theorem dX3_init_18 : decode cX3_init 18 = .ok (.putfield 15, 3) := by decide +kernel
theorem dX3_init_21 : decode cX3_init 21 = .ok (.aload_n 0, 1) := by decide +kernel
theorem dX3_init_22 : decode cX3_init 22 = .ok (.bipush 8, 2) := by decide +kernel
theorem dX3_init_24 : decode cX3_init 24 = .ok (.newarray .int, 2) := by decide +kernel
theorem dX3_init_26 : decode cX3_init 26 = .ok (.putfield 19, 3) := by decide +kernel
theorem dX3_init_29 : decode cX3_init 29 = .ok (.aload_n 0, 1) := by decide +kernel
theorem dX3_init_30 : decode cX3_init 30 = .ok (.iconst (-1), 1) := by decide +kernel
theorem dX3_init_31 : decode cX3_init 31 = .ok (.putfield 22, 3) := by decide +kernel
theorem dX3_init_34 : decode cX3_init 34 = .ok (.aload_n 0, 1) := by decide +kernel
theorem dX3_init_35 : decode cX3_init 35 = .ok (.aload_n 1, 1) := by decide +kernel
theorem dX3_init_36 : decode cX3_init 36 = .ok (.putfield 26, 3) := by decide +kernel
theorem dX3_init_39 : decode cX3_init 39 = .ok (.return_, 1) := by decide +kernel
def bX3_init_0 (l : Launch) (E : Ev) (d : Nat) (Q : Option Value → Hp → Prop) : Kt := k_aload 0 (k_objInit (k_aload 0 (k_push (.int 2304) (k_newarr 2 2304 (k_putR 3 10 0 (k_aload 0 (k_push (.int 8) (k_newarr 1 8 (k_putR 3 10 5 (k_aload 0 (k_push (.int 8) (k_newarr 1 8 (k_putR 3 10 8 (k_aload 0 (k_push (.int (-1)) (k_putI 3 10 9 (k_aload 0 (k_aload 1 (k_putR 3 10 2 (k_vret Q))))))))))))))))))))
set_option maxRecDepth 100000 in
set_option maxHeartbeats 4000000 in
theorem gX3_init_0 {l : Launch} {E : Ev} {d : Nat} {Q : Option Value → Hp → Prop} {ls : Lv} {st : List Value} {h : Hp} (hB : bX3_init_0 l E d Q ls st h) : Go l E YX3_init (d + 1) 3 2320 Q 0 0 0 ls st h :=
  (sd_aload_n (i := 0) rfl dX3_init_0 (sd_objInit mw_307 mw_125 mw_126 (by omega) dX3_init_1 (sd_aload_n (i := 0) rfl dX3_init_4 (sd_sipush (v := 2304) (by decide) dX3_init_5 (sd_newarr (at' := .long) (ki := 2) (B := 2304) (by decide) mw_343 (by decide) (by decide) (by decide) dX3_init_8 (sd_putR clsX3 (f := 0) (by decide) (fun _ _ _ => rfl) rfl (Or.inr ⟨rfl, rfl, rfl⟩) mw_308 dX3_init_10 (sd_aload_n (i := 0) rfl dX3_init_13 (sd_bipush (v := 8) (by decide) dX3_init_14 (sd_newarr (at' := .int) (ki := 1) (B := 8) (by decide) mw_214 (by decide) (by decide) (by decide) dX3_init_16 (sd_putR clsX3 (f := 5) (by decide) (fun _ _ _ => rfl) rfl (Or.inr ⟨rfl, rfl, rfl⟩) mw_313 dX3_init_18 (sd_aload_n (i := 0) rfl dX3_init_21 (sd_bipush (v := 8) (by decide) dX3_init_22 (sd_newarr (at' := .int) (ki := 1) (B := 8) (by decide) mw_214 (by decide) (by decide) (by decide) dX3_init_24 (sd_putR clsX3 (f := 8) (by decide) (fun _ _ _ => rfl) rfl (Or.inr ⟨rfl, rfl, rfl⟩) mw_318 dX3_init_26 (sd_aload_n (i := 0) rfl dX3_init_29 (sd_iconst (v := (-1)) (by decide) dX3_init_30 (sd_putI clsX3 (f := 9) (by decide) (fun _ _ _ => rfl) rfl (Or.inl rfl) mw_320 dX3_init_31 (sd_aload_n (i := 0) rfl dX3_init_34 (sd_aload_n (i := 1) rfl dX3_init_35 (sd_putR clsX3 (f := 2) (by decide) (fun _ _ _ => rfl) rfl (Or.inl rfl) mw_310 dX3_init_36 (sd_vret rfl (by decide) (by decide) dX3_init_39)))))))))))))))))))) : Sd l E YX3_init (d + 1) 3 2320 Q 0 0 0 (bX3_init_0 l E d Q)) ls st h hB
theorem eX3_init {l : Launch} {E : Ev} {d : Nat} {Q : Option Value → Hp → Prop} {h : Hp} {a0 : Nat} {x1 : Nat} (hk : Go l E YX3_init d 3 2320 Q 0 0 0 [some (.ref a0), some (.ref x1)] [] h) : GoM l E YX3_init d 3 2320 [.ref a0, .ref x1] h Q := GoM.of (by decide +kernel) rfl (by simp [entA, YX3_init]) hk
theorem dX3_isNone_0 : decode cX3_isNone 0 = .ok (.lload_n 0, 1) := by decide +kernel
theorem dX3_isNone_1 : decode cX3_isNone 1 = .ok (.ldc2_w 30, 3) := by decide +kernel
theorem dX3_isNone_4 : decode cX3_isNone 4 = .ok (.lcmp, 1) := by decide +kernel
theorem dX3_isNone_5 : decode cX3_isNone 5 = .ok (.ifCond .lt 7, 3) := by decide +kernel
theorem dX3_isNone_8 : decode cX3_isNone 8 = .ok (.iconst 1, 1) := by decide +kernel
theorem dX3_isNone_9 : decode cX3_isNone 9 = .ok (.goto 4, 3) := by decide +kernel
theorem dX3_isNone_12 : decode cX3_isNone 12 = .ok (.iconst 0, 1) := by decide +kernel
theorem dX3_isNone_13 : decode cX3_isNone 13 = .ok (.ireturn, 1) := by decide +kernel
def bX3_isNone_0 (l : Launch) (E : Ev) (d : Nat) (Q : Option Value → Hp → Prop) : Kt := k_lload 0 (k_push (.long 1152921504606846976) (k_lcmp (k_if_lt (k_push (.int 0) (k_iret .boolean Q)) (k_push (.int 1) (k_iret .boolean Q)))))
set_option maxRecDepth 100000 in
set_option maxHeartbeats 4000000 in
theorem gX3_isNone_0 {l : Launch} {E : Ev} {d : Nat} {Q : Option Value → Hp → Prop} {ls : Lv} {st : List Value} {h : Hp} (hB : bX3_isNone_0 l E d Q ls st h) : Go l E YX3_isNone (d + 1) 0 0 Q 0 0 0 ls st h :=
  (sd_lload_n (i := 0) rfl dX3_isNone_0 (sd_ldc2 (v := 1152921504606846976) mw_809 dX3_isNone_1 (sd_lcmp dX3_isNone_4 (sd_if_lt (tgt := 12) (by decide) dX3_isNone_5 (sd_iconst (v := 0) (by decide) dX3_isNone_12 (sd_iret (ty := .boolean) rfl (by decide) (by decide) dX3_isNone_13)) (sd_iconst (v := 1) (by decide) dX3_isNone_8 (sd_goto (tgt := 13) (by decide) dX3_isNone_9 (sd_iret (ty := .boolean) rfl (by decide) (by decide) dX3_isNone_13)))))) : Sd l E YX3_isNone (d + 1) 0 0 Q 0 0 0 (bX3_isNone_0 l E d Q)) ls st h hB
theorem eX3_isNone {l : Launch} {E : Ev} {d : Nat} {Q : Option Value → Hp → Prop} {h : Hp} {x1 : Int64} (hk : Go l E YX3_isNone d 0 0 Q 0 0 0 [some (.long x1), none] [] h) : GoM l E YX3_isNone d 0 0 [.long x1] h Q := GoM.of (by decide +kernel) rfl (by simp [entA, YX3_isNone]) hk
theorem dX3_costIn_0 : decode cX3_costIn 0 = .ok (.lload_n 0, 1) := by decide +kernel
theorem dX3_costIn_1 : decode cX3_costIn 1 = .ok (.invokestatic 32, 3) := by decide +kernel
theorem dX3_costIn_4 : decode cX3_costIn 4 = .ok (.ifCond .eq 7, 3) := by decide +kernel
theorem dX3_costIn_7 : decode cX3_costIn 7 = .ok (.iconst (-1), 1) := by decide +kernel
theorem dX3_costIn_8 : decode cX3_costIn 8 = .ok (.goto 8, 3) := by decide +kernel
theorem dX3_costIn_11 : decode cX3_costIn 11 = .ok (.lload_n 0, 1) := by decide +kernel
theorem dX3_costIn_12 : decode cX3_costIn 12 = .ok (.bipush 24, 2) := by decide +kernel
theorem dX3_costIn_14 : decode cX3_costIn 14 = .ok (.lshr, 1) := by decide +kernel
theorem dX3_costIn_15 : decode cX3_costIn 15 = .ok (.l2i, 1) := by decide +kernel
theorem dX3_costIn_16 : decode cX3_costIn 16 = .ok (.ireturn, 1) := by decide +kernel
def bX3_costIn_0 (l : Launch) (E : Ev) (d : Nat) (Q : Option Value → Hp → Prop) : Kt := k_lload 0 (k_callS l E YX3_isNone d 0 0 1 (k_if_eq (k_lload 0 (k_push (.int 24) (k_lshr (k_l2i (k_iret .int Q))))) (k_push (.int (-1)) (k_iret .int Q))))
set_option maxRecDepth 100000 in
set_option maxHeartbeats 4000000 in
theorem gX3_costIn_0 {l : Launch} {E : Ev} {d : Nat} {Q : Option Value → Hp → Prop} {ls : Lv} {st : List Value} {h : Hp} (hB : bX3_costIn_0 l E d Q ls st h) : Go l E YX3_costIn (d + 1) 0 0 Q 0 0 0 ls st h :=
  (sd_lload_n (i := 0) rfl dX3_costIn_0 (sd_callS (Y' := YX3_isNone) (mc' := 0) (ms' := 0) (n := 1) mw_895 mw_896 mw_104 mw_897 (okmX3_isNone) (by decide) (Nat.le_refl _) (by decide) (by decide) dX3_costIn_1 (sd_if_eq (tgt := 11) (by decide) dX3_costIn_4 (sd_lload_n (i := 0) rfl dX3_costIn_11 (sd_bipush (v := 24) (by decide) dX3_costIn_12 (sd_lshr dX3_costIn_14 (sd_l2i dX3_costIn_15 (sd_iret (ty := .int) rfl (by decide) (by decide) dX3_costIn_16))))) (sd_iconst (v := (-1)) (by decide) dX3_costIn_7 (sd_goto (tgt := 16) (by decide) dX3_costIn_8 (sd_iret (ty := .int) rfl (by decide) (by decide) dX3_costIn_16))))) : Sd l E YX3_costIn (d + 1) 0 0 Q 0 0 0 (bX3_costIn_0 l E d Q)) ls st h hB
theorem eX3_costIn {l : Launch} {E : Ev} {d : Nat} {Q : Option Value → Hp → Prop} {h : Hp} {x1 : Int64} (hk : Go l E YX3_costIn d 0 0 Q 0 0 0 [some (.long x1), none] [] h) : GoM l E YX3_costIn d 0 0 [.long x1] h Q := GoM.of (by decide +kernel) rfl (by simp [entA, YX3_costIn]) hk
theorem dX3_playerIn_0 : decode cX3_playerIn 0 = .ok (.lload_n 0, 1) := by decide +kernel
theorem dX3_playerIn_1 : decode cX3_playerIn 1 = .ok (.invokestatic 32, 3) := by decide +kernel
theorem dX3_playerIn_4 : decode cX3_playerIn 4 = .ok (.ifCond .eq 7, 3) := by decide +kernel
theorem dX3_playerIn_7 : decode cX3_playerIn 7 = .ok (.iconst (-1), 1) := by decide +kernel
theorem dX3_playerIn_8 : decode cX3_playerIn 8 = .ok (.goto 15, 3) := by decide +kernel
theorem dX3_playerIn_11 : decode cX3_playerIn 11 = .ok (.lload_n 0, 1) := by decide +kernel
theorem dX3_playerIn_12 : decode cX3_playerIn 12 = .ok (.iconst 3, 1) := by decide +kernel
theorem dX3_playerIn_13 : decode cX3_playerIn 13 = .ok (.bipush 7, 2) := by decide +kernel
theorem dX3_playerIn_15 : decode cX3_playerIn 15 = .ok (.iload_n 2, 1) := by decide +kernel
theorem dX3_playerIn_16 : decode cX3_playerIn 16 = .ok (.isub, 1) := by decide +kernel
theorem dX3_playerIn_17 : decode cX3_playerIn 17 = .ok (.imul, 1) := by decide +kernel
theorem dX3_playerIn_18 : decode cX3_playerIn 18 = .ok (.lshr, 1) := by decide +kernel
theorem dX3_playerIn_19 : decode cX3_playerIn 19 = .ok (.l2i, 1) := by decide +kernel
theorem dX3_playerIn_20 : decode cX3_playerIn 20 = .ok (.bipush 7, 2) := by decide +kernel
theorem dX3_playerIn_22 : decode cX3_playerIn 22 = .ok (.iand, 1) := by decide +kernel
theorem dX3_playerIn_23 : decode cX3_playerIn 23 = .ok (.ireturn, 1) := by decide +kernel
def bX3_playerIn_0 (l : Launch) (E : Ev) (d : Nat) (Q : Option Value → Hp → Prop) : Kt := k_lload 0 (k_callS l E YX3_isNone d 0 0 1 (k_if_eq (k_lload 0 (k_push (.int 3) (k_push (.int 7) (k_iload 2 (k_isub (k_imul (k_lshr (k_l2i (k_push (.int 7) (k_iand (k_iret .int Q))))))))))) (k_push (.int (-1)) (k_iret .int Q))))
set_option maxRecDepth 100000 in
set_option maxHeartbeats 4000000 in
theorem gX3_playerIn_0 {l : Launch} {E : Ev} {d : Nat} {Q : Option Value → Hp → Prop} {ls : Lv} {st : List Value} {h : Hp} (hB : bX3_playerIn_0 l E d Q ls st h) : Go l E YX3_playerIn (d + 1) 0 0 Q 0 0 0 ls st h :=
  (sd_lload_n (i := 0) rfl dX3_playerIn_0 (sd_callS (Y' := YX3_isNone) (mc' := 0) (ms' := 0) (n := 1) mw_895 mw_896 mw_104 mw_897 (okmX3_isNone) (by decide) (Nat.le_refl _) (by decide) (by decide) dX3_playerIn_1 (sd_if_eq (tgt := 11) (by decide) dX3_playerIn_4 (sd_lload_n (i := 0) rfl dX3_playerIn_11 (sd_iconst (v := 3) (by decide) dX3_playerIn_12 (sd_bipush (v := 7) (by decide) dX3_playerIn_13 (sd_iload_n (i := 2) rfl dX3_playerIn_15 (sd_isub dX3_playerIn_16 (sd_imul dX3_playerIn_17 (sd_lshr dX3_playerIn_18 (sd_l2i dX3_playerIn_19 (sd_bipush (v := 7) (by decide) dX3_playerIn_20 (sd_iand dX3_playerIn_22 (sd_iret (ty := .int) rfl (by decide) (by decide) dX3_playerIn_23))))))))))) (sd_iconst (v := (-1)) (by decide) dX3_playerIn_7 (sd_goto (tgt := 23) (by decide) dX3_playerIn_8 (sd_iret (ty := .int) rfl (by decide) (by decide) dX3_playerIn_23))))) : Sd l E YX3_playerIn (d + 1) 0 0 Q 0 0 0 (bX3_playerIn_0 l E d Q)) ls st h hB
theorem eX3_playerIn {l : Launch} {E : Ev} {d : Nat} {Q : Option Value → Hp → Prop} {h : Hp} {x1 : Int64} {x2 : Int32} (hk : Go l E YX3_playerIn d 0 0 Q 0 0 0 [some (.long x1), none, some (.int x2)] [] h) : GoM l E YX3_playerIn d 0 0 [.long x1, .int x2] h Q := GoM.of (by decide +kernel) rfl (by simp [entA, YX3_playerIn]) hk
theorem dX3_firstOf_0 : decode cX3_firstOf 0 = .ok (.aload_n 0, 1) := by decide +kernel
theorem dX3_firstOf_1 : decode cX3_firstOf 1 = .ok (.aload_n 1, 1) := by decide +kernel
theorem dX3_firstOf_2 : decode cX3_firstOf 2 = .ok (.iconst 0, 1) := by decide +kernel
theorem dX3_firstOf_3 : decode cX3_firstOf 3 = .ok (.invokevirtual 36, 3) := by decide +kernel
theorem dX3_firstOf_6 : decode cX3_firstOf 6 = .ok (.aload_n 0, 1) := by decide +kernel
theorem dX3_firstOf_7 : decode cX3_firstOf 7 = .ok (.iload_n 2, 1) := by decide +kernel
theorem dX3_firstOf_8 : decode cX3_firstOf 8 = .ok (.invokevirtual 40, 3) := by decide +kernel
theorem dX3_firstOf_11 : decode cX3_firstOf 11 = .ok (.lreturn, 1) := by decide +kernel
def bX3_firstOf_0 (l : Launch) (E : Ev) (d : Nat) (Q : Option Value → Hp → Prop) : Kt := k_aload 0 (k_aload 1 (k_push (.int 0) (k_callV l E 3 10 YX3_begin d 0 0 2 (k_aload 0 (k_iload 2 (k_callV l E 3 10 YX3_solve d 0 0 1 (k_lret Q)))))))
set_option maxRecDepth 100000 in
set_option maxHeartbeats 4000000 in
theorem gX3_firstOf_0 {l : Launch} {E : Ev} {d : Nat} {Q : Option Value → Hp → Prop} {ls : Lv} {st : List Value} {h : Hp} (hB : bX3_firstOf_0 l E d Q ls st h) : Go l E YX3_firstOf (d + 1) 0 0 Q 0 0 0 ls st h :=
  (sd_aload_n (i := 0) rfl dX3_firstOf_0 (sd_aload_n (i := 1) rfl dX3_firstOf_1 (sd_iconst (v := 0) (by decide) dX3_firstOf_2 (sd_callV (Y' := YX3_begin) (mc' := 0) (ms' := 0) (n := 2) clsX3.1 mw_794 mw_796 mw_16 mw_104 mw_797 rfl (okmX3_begin) (by decide) (Nat.le_refl _) (by decide) (by decide) dX3_firstOf_3 (sd_aload_n (i := 0) rfl dX3_firstOf_6 (sd_iload_n (i := 2) rfl dX3_firstOf_7 (sd_callV (Y' := YX3_solve) (mc' := 0) (ms' := 0) (n := 1) clsX3.1 mw_801 mw_803 mw_17 mw_104 mw_804 rfl (okmX3_solve) (by decide) (Nat.le_refl _) (by decide) (by decide) dX3_firstOf_8 (sd_lret rfl (by decide) (by decide) dX3_firstOf_11))))))) : Sd l E YX3_firstOf (d + 1) 0 0 Q 0 0 0 (bX3_firstOf_0 l E d Q)) ls st h hB
theorem eX3_firstOf {l : Launch} {E : Ev} {d : Nat} {Q : Option Value → Hp → Prop} {h : Hp} {a0 : Nat} {x1 : Nat} {x2 : Int32} (hk : Go l E YX3_firstOf d 0 0 Q 0 0 0 [some (.ref a0), some (.ref x1), some (.int x2)] [] h) : GoM l E YX3_firstOf d 0 0 [.ref a0, .ref x1, .int x2] h Q := GoM.of (by decide +kernel) rfl (by simp [entA, YX3_firstOf]) hk
theorem dX3_tallyAll_0 : decode cX3_tallyAll 0 = .ok (.aload_n 0, 1) := by decide +kernel
theorem dX3_tallyAll_1 : decode cX3_tallyAll 1 = .ok (.aload_n 1, 1) := by decide +kernel
theorem dX3_tallyAll_2 : decode cX3_tallyAll 2 = .ok (.iconst 1, 1) := by decide +kernel
theorem dX3_tallyAll_3 : decode cX3_tallyAll 3 = .ok (.invokevirtual 36, 3) := by decide +kernel
theorem dX3_tallyAll_6 : decode cX3_tallyAll 6 = .ok (.aload_n 0, 1) := by decide +kernel
theorem dX3_tallyAll_7 : decode cX3_tallyAll 7 = .ok (.aload_n 0, 1) := by decide +kernel
theorem dX3_tallyAll_8 : decode cX3_tallyAll 8 = .ok (.iload_n 2, 1) := by decide +kernel
theorem dX3_tallyAll_9 : decode cX3_tallyAll 9 = .ok (.invokevirtual 40, 3) := by decide +kernel
theorem dX3_tallyAll_12 : decode cX3_tallyAll 12 = .ok (.ldc2_w 44, 3) := by decide +kernel
theorem dX3_tallyAll_15 : decode cX3_tallyAll 15 = .ok (.land, 1) := by decide +kernel
theorem dX3_tallyAll_16 : decode cX3_tallyAll 16 = .ok (.l2i, 1) := by decide +kernel
theorem dX3_tallyAll_17 : decode cX3_tallyAll 17 = .ok (.putfield 46, 3) := by decide +kernel
theorem dX3_tallyAll_20 : decode cX3_tallyAll 20 = .ok (.aload_n 0, 1) := by decide +kernel
theorem dX3_tallyAll_21 : decode cX3_tallyAll 21 = .ok (.aload_n 1, 1) := by decide +kernel
theorem dX3_tallyAll_22 : decode cX3_tallyAll 22 = .ok (.iconst 2, 1) := by decide +kernel
theorem dX3_tallyAll_23 : decode cX3_tallyAll 23 = .ok (.invokevirtual 36, 3) := by decide +kernel
theorem dX3_tallyAll_26 : decode cX3_tallyAll 26 = .ok (.aload_n 0, 1) := by decide +kernel
theorem dX3_tallyAll_27 : decode cX3_tallyAll 27 = .ok (.aload_n 0, 1) := by decide +kernel
theorem dX3_tallyAll_28 : decode cX3_tallyAll 28 = .ok (.iload_n 2, 1) := by decide +kernel
theorem dX3_tallyAll_29 : decode cX3_tallyAll 29 = .ok (.invokevirtual 40, 3) := by decide +kernel
theorem dX3_tallyAll_32 : decode cX3_tallyAll 32 = .ok (.ldc2_w 44, 3) := by decide +kernel
theorem dX3_tallyAll_35 : decode cX3_tallyAll 35 = .ok (.land, 1) := by decide +kernel
theorem dX3_tallyAll_36 : decode cX3_tallyAll 36 = .ok (.l2i, 1) := by decide +kernel
theorem dX3_tallyAll_37 : decode cX3_tallyAll 37 = .ok (.putfield 49, 3) := by decide +kernel
theorem dX3_tallyAll_40 : decode cX3_tallyAll 40 = .ok (.return_, 1) := by decide +kernel
def bX3_tallyAll_0 (l : Launch) (E : Ev) (d : Nat) (Q : Option Value → Hp → Prop) : Kt := k_aload 0 (k_aload 1 (k_push (.int 1) (k_callV l E 3 10 YX3_begin d 0 0 2 (k_aload 0 (k_aload 0 (k_iload 2 (k_callV l E 3 10 YX3_solve d 0 0 1 (k_push (.long 4294967295) (k_land (k_l2i (k_putI 3 10 6 (k_aload 0 (k_aload 1 (k_push (.int 2) (k_callV l E 3 10 YX3_begin d 0 0 2 (k_aload 0 (k_aload 0 (k_iload 2 (k_callV l E 3 10 YX3_solve d 0 0 1 (k_push (.long 4294967295) (k_land (k_l2i (k_putI 3 10 7 (k_vret Q))))))))))))))))))))))))
set_option maxRecDepth 100000 in
set_option maxHeartbeats 4000000 in
theorem gX3_tallyAll_0 {l : Launch} {E : Ev} {d : Nat} {Q : Option Value → Hp → Prop} {ls : Lv} {st : List Value} {h : Hp} (hB : bX3_tallyAll_0 l E d Q ls st h) : Go l E YX3_tallyAll (d + 1) 0 0 Q 0 0 0 ls st h :=
  (sd_aload_n (i := 0) rfl dX3_tallyAll_0 (sd_aload_n (i := 1) rfl dX3_tallyAll_1 (sd_iconst (v := 1) (by decide) dX3_tallyAll_2 (sd_callV (Y' := YX3_begin) (mc' := 0) (ms' := 0) (n := 2) clsX3.1 mw_794 mw_796 mw_16 mw_104 mw_797 rfl (okmX3_begin) (by decide) (Nat.le_refl _) (by decide) (by decide) dX3_tallyAll_3 (sd_aload_n (i := 0) rfl dX3_tallyAll_6 (sd_aload_n (i := 0) rfl dX3_tallyAll_7 (sd_iload_n (i := 2) rfl dX3_tallyAll_8 (sd_callV (Y' := YX3_solve) (mc' := 0) (ms' := 0) (n := 1) clsX3.1 mw_801 mw_803 mw_17 mw_104 mw_804 rfl (okmX3_solve) (by decide) (Nat.le_refl _) (by decide) (by decide) dX3_tallyAll_9 (sd_ldc2 (v := 4294967295) mw_851 dX3_tallyAll_12 (sd_land dX3_tallyAll_15 (sd_l2i dX3_tallyAll_16 (sd_putI clsX3 (f := 6) (by decide) (fun _ _ _ => rfl) rfl (Or.inl rfl) mw_314 dX3_tallyAll_17 (sd_aload_n (i := 0) rfl dX3_tallyAll_20 (sd_aload_n (i := 1) rfl dX3_tallyAll_21 (sd_iconst (v := 2) (by decide) dX3_tallyAll_22 (sd_callV (Y' := YX3_begin) (mc' := 0) (ms' := 0) (n := 2) clsX3.1 mw_794 mw_796 mw_16 mw_104 mw_797 rfl (okmX3_begin) (by decide) (Nat.le_refl _) (by decide) (by decide) dX3_tallyAll_23 (sd_aload_n (i := 0) rfl dX3_tallyAll_26 (sd_aload_n (i := 0) rfl dX3_tallyAll_27 (sd_iload_n (i := 2) rfl dX3_tallyAll_28 (sd_callV (Y' := YX3_solve) (mc' := 0) (ms' := 0) (n := 1) clsX3.1 mw_801 mw_803 mw_17 mw_104 mw_804 rfl (okmX3_solve) (by decide) (Nat.le_refl _) (by decide) (by decide) dX3_tallyAll_29 (sd_ldc2 (v := 4294967295) mw_851 dX3_tallyAll_32 (sd_land dX3_tallyAll_35 (sd_l2i dX3_tallyAll_36 (sd_putI clsX3 (f := 7) (by decide) (fun _ _ _ => rfl) rfl (Or.inl rfl) mw_316 dX3_tallyAll_37 (sd_vret rfl (by decide) (by decide) dX3_tallyAll_40)))))))))))))))))))))))) : Sd l E YX3_tallyAll (d + 1) 0 0 Q 0 0 0 (bX3_tallyAll_0 l E d Q)) ls st h hB
theorem eX3_tallyAll {l : Launch} {E : Ev} {d : Nat} {Q : Option Value → Hp → Prop} {h : Hp} {a0 : Nat} {x1 : Nat} {x2 : Int32} (hk : Go l E YX3_tallyAll d 0 0 Q 0 0 0 [some (.ref a0), some (.ref x1), some (.int x2)] [] h) : GoM l E YX3_tallyAll d 0 0 [.ref a0, .ref x1, .int x2] h Q := GoM.of (by decide +kernel) rfl (by simp [entA, YX3_tallyAll]) hk
theorem dX3_begin_0 : decode cX3_begin 0 = .ok (.aload_n 0, 1) := by decide +kernel
theorem dX3_begin_1 : decode cX3_begin 1 = .ok (.aload_n 1, 1) := by decide +kernel
theorem dX3_begin_2 : decode cX3_begin 2 = .ok (.putfield 26, 3) := by decide +kernel
theorem dX3_begin_5 : decode cX3_begin 5 = .ok (.aload_n 0, 1) := by decide +kernel
theorem dX3_begin_6 : decode cX3_begin 6 = .ok (.iload_n 2, 1) := by decide +kernel
theorem dX3_begin_7 : decode cX3_begin 7 = .ok (.putfield 52, 3) := by decide +kernel
theorem dX3_begin_10 : decode cX3_begin 10 = .ok (.aload_n 0, 1) := by decide +kernel
theorem dX3_begin_11 : decode cX3_begin 11 = .ok (.iconst 1, 1) := by decide +kernel
theorem dX3_begin_12 : decode cX3_begin 12 = .ok (.aload_n 1, 1) := by decide +kernel
theorem dX3_begin_13 : decode cX3_begin 13 = .ok (.getfield 55, 3) := by decide +kernel
theorem dX3_begin_16 : decode cX3_begin 16 = .ok (.ishl, 1) := by decide +kernel
theorem dX3_begin_17 : decode cX3_begin 17 = .ok (.putfield 60, 3) := by decide +kernel
theorem dX3_begin_20 : decode cX3_begin 20 = .ok (.aload_n 0, 1) := by decide +kernel
theorem dX3_begin_21 : decode cX3_begin 21 = .ok (.aload_n 0, 1) := by decide +kernel
theorem dX3_begin_22 : decode cX3_begin 22 = .ok (.getfield 60, 3) := by decide +kernel
theorem dX3_begin_25 : decode cX3_begin 25 = .ok (.iconst 1, 1) := by decide +kernel
theorem dX3_begin_26 : decode cX3_begin 26 = .ok (.isub, 1) := by decide +kernel
theorem dX3_begin_27 : decode cX3_begin 27 = .ok (.putfield 63, 3) := by decide +kernel
theorem dX3_begin_30 : decode cX3_begin 30 = .ok (.aload_n 0, 1) := by decide +kernel
theorem dX3_begin_31 : decode cX3_begin 31 = .ok (.getfield 15, 3) := by decide +kernel
theorem dX3_begin_34 : decode cX3_begin 34 = .ok (.iconst 0, 1) := by decide +kernel
theorem dX3_begin_35 : decode cX3_begin 35 = .ok (.invokestatic 66, 3) := by decide +kernel
theorem dX3_begin_38 : decode cX3_begin 38 = .ok (.return_, 1) := by decide +kernel
def bX3_begin_0 (l : Launch) (E : Ev) (d : Nat) (Q : Option Value → Hp → Prop) : Kt := k_aload 0 (k_aload 1 (k_putR 3 10 2 (k_aload 0 (k_iload 2 (k_putI 3 10 1 (k_aload 0 (k_push (.int 1) (k_aload 1 (k_getI 0 7 1 (k_ishl (k_putI 3 10 3 (k_aload 0 (k_aload 0 (k_getI 3 10 3 (k_push (.int 1) (k_isub (k_putI 3 10 4 (k_aload 0 (k_getR 3 10 5 (k_push (.int 0) (k_callS l E YJ7_fill_53178 d 0 0 2 (k_vret Q))))))))))))))))))))))
set_option maxRecDepth 100000 in
set_option maxHeartbeats 4000000 in
theorem gX3_begin_0 {l : Launch} {E : Ev} {d : Nat} {Q : Option Value → Hp → Prop} {ls : Lv} {st : List Value} {h : Hp} (hB : bX3_begin_0 l E d Q ls st h) : Go l E YX3_begin (d + 1) 0 0 Q 0 0 0 ls st h :=
  (sd_aload_n (i := 0) rfl dX3_begin_0 (sd_aload_n (i := 1) rfl dX3_begin_1 (sd_putR clsX3 (f := 2) (by decide) (fun _ _ _ => rfl) rfl (Or.inl rfl) mw_310 dX3_begin_2 (sd_aload_n (i := 0) rfl dX3_begin_5 (sd_iload_n (i := 2) rfl dX3_begin_6 (sd_putI clsX3 (f := 1) (by decide) (fun _ _ _ => rfl) rfl (Or.inl rfl) mw_309 dX3_begin_7 (sd_aload_n (i := 0) rfl dX3_begin_10 (sd_iconst (v := 1) (by decide) dX3_begin_11 (sd_aload_n (i := 1) rfl dX3_begin_12 (sd_getI clsX0 (f := 1) (by decide) (fun _ _ _ => rfl) mw_272 dX3_begin_13 (sd_ishl dX3_begin_16 (sd_putI clsX3 (f := 3) (by decide) (fun _ _ _ => rfl) rfl (Or.inl rfl) mw_311 dX3_begin_17 (sd_aload_n (i := 0) rfl dX3_begin_20 (sd_aload_n (i := 0) rfl dX3_begin_21 (sd_getI clsX3 (f := 3) (by decide) (fun _ _ _ => rfl) mw_311 dX3_begin_22 (sd_iconst (v := 1) (by decide) dX3_begin_25 (sd_isub dX3_begin_26 (sd_putI clsX3 (f := 4) (by decide) (fun _ _ _ => rfl) rfl (Or.inl rfl) mw_312 dX3_begin_27 (sd_aload_n (i := 0) rfl dX3_begin_30 (sd_getR clsX3 (f := 5) (by decide) (fun _ _ _ => rfl) mw_313 dX3_begin_31 (sd_iconst (v := 0) (by decide) dX3_begin_34 (sd_callS (Y' := YJ7_fill_53178) (mc' := 0) (ms' := 0) (n := 2) mw_798 mw_799 mw_115 mw_800 (okmJ7_fill_53178) (by decide) (Nat.le_refl _) (by decide) (by decide) dX3_begin_35 (sd_vret rfl (by decide) (by decide) dX3_begin_38)))))))))))))))))))))) : Sd l E YX3_begin (d + 1) 0 0 Q 0 0 0 (bX3_begin_0 l E d Q)) ls st h hB
theorem eX3_begin {l : Launch} {E : Ev} {d : Nat} {Q : Option Value → Hp → Prop} {h : Hp} {a0 : Nat} {x1 : Nat} {x2 : Int32} (hk : Go l E YX3_begin d 0 0 Q 0 0 0 [some (.ref a0), some (.ref x1), some (.int x2)] [] h) : GoM l E YX3_begin d 0 0 [.ref a0, .ref x1, .int x2] h Q := GoM.of (by decide +kernel) rfl (by simp [entA, YX3_begin]) hk
theorem dX3_open_0 : decode cX3_open 0 = .ok (.aload_n 0, 1) := by decide +kernel
theorem dX3_open_1 : decode cX3_open 1 = .ok (.getfield 9, 3) := by decide +kernel
theorem dX3_open_4 : decode cX3_open 4 = .ok (.iconst 0, 1) := by decide +kernel
theorem dX3_open_5 : decode cX3_open 5 = .ok (.aload_n 0, 1) := by decide +kernel
theorem dX3_open_6 : decode cX3_open 6 = .ok (.getfield 60, 3) := by decide +kernel
theorem dX3_open_9 : decode cX3_open 9 = .ok (.ldc2_w 30, 3) := by decide +kernel
theorem dX3_open_12 : decode cX3_open 12 = .ok (.invokestatic 72, 3) := by decide +kernel
theorem dX3_open_15 : decode cX3_open 15 = .ok (.aload_n 0, 1) := by decide +kernel
theorem dX3_open_16 : decode cX3_open 16 = .ok (.getfield 9, 3) := by decide +kernel
theorem dX3_open_19 : decode cX3_open 19 = .ok (.iconst 0, 1) := by decide +kernel
theorem dX3_open_20 : decode cX3_open 20 = .ok (.aload_n 0, 1) := by decide +kernel
theorem dX3_open_21 : decode cX3_open 21 = .ok (.getfield 52, 3) := by decide +kernel
theorem dX3_open_24 : decode cX3_open 24 = .ok (.ifCond .ne 7, 3) := by decide +kernel
theorem dX3_open_27 : decode cX3_open 27 = .ok (.lconst 0, 1) := by decide +kernel
theorem dX3_open_28 : decode cX3_open 28 = .ok (.goto 4, 3) := by decide +kernel
theorem dX3_open_31 : decode cX3_open 31 = .ok (.lconst 1, 1) := by decide +kernel
theorem dX3_open_32 : decode cX3_open 32 = .ok (.lastore, 1) := by decide +kernel
theorem dX3_open_33 : decode cX3_open 33 = .ok (.return_, 1) := by decide +kernel
def bX3_open_0 (l : Launch) (E : Ev) (d : Nat) (Q : Option Value → Hp → Prop) : Kt := k_aload 0 (k_getR 3 10 0 (k_push (.int 0) (k_aload 0 (k_getI 3 10 3 (k_push (.long 1152921504606846976) (k_callS l E YJ7_fill_bad5a d 0 0 4 (k_aload 0 (k_getR 3 10 0 (k_push (.int 0) (k_aload 0 (k_getI 3 10 1 (k_if_ne (k_push (.long 1) (k_lastore (k_vret Q))) (k_push (.long 0) (k_lastore (k_vret Q)))))))))))))))
set_option maxRecDepth 100000 in
set_option maxHeartbeats 4000000 in
theorem gX3_open_0 {l : Launch} {E : Ev} {d : Nat} {Q : Option Value → Hp → Prop} {ls : Lv} {st : List Value} {h : Hp} (hB : bX3_open_0 l E d Q ls st h) : Go l E YX3_open (d + 1) 0 0 Q 0 0 0 ls st h :=
  (sd_aload_n (i := 0) rfl dX3_open_0 (sd_getR clsX3 (f := 0) (by decide) (fun _ _ _ => rfl) mw_308 dX3_open_1 (sd_iconst (v := 0) (by decide) dX3_open_4 (sd_aload_n (i := 0) rfl dX3_open_5 (sd_getI clsX3 (f := 3) (by decide) (fun _ _ _ => rfl) mw_311 dX3_open_6 (sd_ldc2 (v := 1152921504606846976) mw_809 dX3_open_9 (sd_callS (Y' := YJ7_fill_bad5a) (mc' := 0) (ms' := 0) (n := 4) mw_810 mw_811 mw_115 mw_812 (okmJ7_fill_bad5a) (by decide) (Nat.le_refl _) (by decide) (by decide) dX3_open_12 (sd_aload_n (i := 0) rfl dX3_open_15 (sd_getR clsX3 (f := 0) (by decide) (fun _ _ _ => rfl) mw_308 dX3_open_16 (sd_iconst (v := 0) (by decide) dX3_open_19 (sd_aload_n (i := 0) rfl dX3_open_20 (sd_getI clsX3 (f := 1) (by decide) (fun _ _ _ => rfl) mw_309 dX3_open_21 (sd_if_ne (tgt := 31) (by decide) dX3_open_24 (sd_lconst (v := 1) (by decide) dX3_open_31 (sd_lastore dX3_open_32 (sd_vret rfl (by decide) (by decide) dX3_open_33))) (sd_lconst (v := 0) (by decide) dX3_open_27 (sd_goto (tgt := 32) (by decide) dX3_open_28 (sd_lastore dX3_open_32 (sd_vret rfl (by decide) (by decide) dX3_open_33)))))))))))))))) : Sd l E YX3_open (d + 1) 0 0 Q 0 0 0 (bX3_open_0 l E d Q)) ls st h hB
theorem eX3_open {l : Launch} {E : Ev} {d : Nat} {Q : Option Value → Hp → Prop} {h : Hp} {a0 : Nat} (hk : Go l E YX3_open d 0 0 Q 0 0 0 [some (.ref a0)] [] h) : GoM l E YX3_open d 0 0 [.ref a0] h Q := GoM.of (by decide +kernel) rfl (by simp [entA, YX3_open]) hk
theorem dX3_solve_0 : decode cX3_solve 0 = .ok (.aload_n 0, 1) := by decide +kernel
theorem dX3_solve_1 : decode cX3_solve 1 = .ok (.invokevirtual 75, 3) := by decide +kernel
theorem dX3_solve_4 : decode cX3_solve 4 = .ok (.iconst 0, 1) := by decide +kernel
theorem dX3_solve_5 : decode cX3_solve 5 = .ok (.istore_n 2, 1) := by decide +kernel
theorem dX3_solve_6 : decode cX3_solve 6 = .ok (.iload_n 2, 1) := by decide +kernel
theorem dX3_solve_7 : decode cX3_solve 7 = .ok (.aload_n 0, 1) := by decide +kernel
theorem dX3_solve_8 : decode cX3_solve 8 = .ok (.getfield 26, 3) := by decide +kernel
theorem dX3_solve_11 : decode cX3_solve 11 = .ok (.getfield 78, 3) := by decide +kernel
theorem dX3_solve_14 : decode cX3_solve 14 = .ok (.if_icmp .ge 27, 3) := by decide +kernel
theorem dX3_solve_17 : decode cX3_solve 17 = .ok (.aload_n 0, 1) := by decide +kernel
theorem dX3_solve_18 : decode cX3_solve 18 = .ok (.iload_n 2, 1) := by decide +kernel
theorem dX3_solve_19 : decode cX3_solve 19 = .ok (.invokevirtual 81, 3) := by decide +kernel
theorem dX3_solve_22 : decode cX3_solve 22 = .ok (.iload_n 1, 1) := by decide +kernel
theorem dX3_solve_23 : decode cX3_solve 23 = .ok (.iload_n 2, 1) := by decide +kernel
theorem dX3_solve_24 : decode cX3_solve 24 = .ok (.ishr, 1) := by decide +kernel
theorem dX3_solve_25 : decode cX3_solve 25 = .ok (.iconst 1, 1) := by decide +kernel
theorem dX3_solve_26 : decode cX3_solve 26 = .ok (.iand, 1) := by decide +kernel
theorem dX3_solve_27 : decode cX3_solve 27 = .ok (.ifCond .ne 8, 3) := by decide +kernel
theorem dX3_solve_30 : decode cX3_solve 30 = .ok (.aload_n 0, 1) := by decide +kernel
theorem dX3_solve_31 : decode cX3_solve 31 = .ok (.iload_n 2, 1) := by decide +kernel
theorem dX3_solve_32 : decode cX3_solve 32 = .ok (.invokevirtual 85, 3) := by decide +kernel
theorem dX3_solve_35 : decode cX3_solve 35 = .ok (.iinc 2 1, 3) := by decide +kernel
theorem dX3_solve_38 : decode cX3_solve 38 = .ok (.goto (-32), 3) := by decide +kernel
theorem dX3_solve_41 : decode cX3_solve 41 = .ok (.aload_n 0, 1) := by decide +kernel
theorem dX3_solve_42 : decode cX3_solve 42 = .ok (.getfield 9, 3) := by decide +kernel
theorem dX3_solve_45 : decode cX3_solve 45 = .ok (.aload_n 0, 1) := by decide +kernel
theorem dX3_solve_46 : decode cX3_solve 46 = .ok (.getfield 26, 3) := by decide +kernel
theorem dX3_solve_49 : decode cX3_solve 49 = .ok (.getfield 78, 3) := by decide +kernel
theorem dX3_solve_52 : decode cX3_solve 52 = .ok (.sipush 256, 3) := by decide +kernel
theorem dX3_solve_55 : decode cX3_solve 55 = .ok (.imul, 1) := by decide +kernel
theorem dX3_solve_56 : decode cX3_solve 56 = .ok (.aload_n 0, 1) := by decide +kernel
theorem dX3_solve_57 : decode cX3_solve 57 = .ok (.getfield 63, 3) := by decide +kernel
theorem dX3_solve_60 : decode cX3_solve 60 = .ok (.iadd, 1) := by decide +kernel
theorem dX3_solve_61 : decode cX3_solve 61 = .ok (.laload, 1) := by decide +kernel
theorem dX3_solve_62 : decode cX3_solve 62 = .ok (.lreturn, 1) := by decide +kernel
def bX3_solve_0 (l : Launch) (E : Ev) (d : Nat) (Q : Option Value → Hp → Prop) : Kt := k_aload 0 (k_callV l E 3 10 YX3_open d 0 0 0 (k_push (.int 0) (k_istore 2 (Go l E YX3_solve (d + 1) 0 0 Q 0 0 6))))
set_option maxRecDepth 100000 in
set_option maxHeartbeats 4000000 in
theorem gX3_solve_0 {l : Launch} {E : Ev} {d : Nat} {Q : Option Value → Hp → Prop} {ls : Lv} {st : List Value} {h : Hp} (hB : bX3_solve_0 l E d Q ls st h) : Go l E YX3_solve (d + 1) 0 0 Q 0 0 0 ls st h :=
  (sd_aload_n (i := 0) rfl dX3_solve_0 (sd_callV (Y' := YX3_open) (mc' := 0) (ms' := 0) (n := 0) clsX3.1 mw_805 mw_807 mw_18 mw_104 mw_808 rfl (okmX3_open) (by decide) (Nat.le_refl _) (by decide) (by decide) dX3_solve_1 (sd_iconst (v := 0) (by decide) dX3_solve_4 (sd_istore_n (i := 2) rfl (by decide) dX3_solve_5 (Sd.go)))) : Sd l E YX3_solve (d + 1) 0 0 Q 0 0 0 (bX3_solve_0 l E d Q)) ls st h hB
def bX3_solve_6 (l : Launch) (E : Ev) (d : Nat) (Q : Option Value → Hp → Prop) : Kt := k_iload 2 (k_aload 0 (k_getR 3 10 2 (k_getI 0 7 0 (k_icmp_ge (k_aload 0 (k_getR 3 10 0 (k_aload 0 (k_getR 3 10 2 (k_getI 0 7 0 (k_push (.int 256) (k_imul (k_aload 0 (k_getI 3 10 4 (k_iadd (k_laload (k_lret Q)))))))))))) (k_aload 0 (k_iload 2 (k_callV l E 3 10 YX3_rest d 0 0 1 (k_iload 1 (k_iload 2 (k_ishr (k_push (.int 1) (k_iand (k_if_ne (k_iinc 2 1 (Go l E YX3_solve (d + 1) 0 0 Q 0 0 6)) (k_aload 0 (k_iload 2 (k_callV l E 3 10 YX3_play d 0 0 1 (k_iinc 2 1 (Go l E YX3_solve (d + 1) 0 0 Q 0 0 6))))))))))))))))))
set_option maxRecDepth 100000 in
set_option maxHeartbeats 4000000 in
theorem gX3_solve_6 {l : Launch} {E : Ev} {d : Nat} {Q : Option Value → Hp → Prop} {ls : Lv} {st : List Value} {h : Hp} (hB : bX3_solve_6 l E d Q ls st h) : Go l E YX3_solve (d + 1) 0 0 Q 0 0 6 ls st h :=
  (sd_iload_n (i := 2) rfl dX3_solve_6 (sd_aload_n (i := 0) rfl dX3_solve_7 (sd_getR clsX3 (f := 2) (by decide) (fun _ _ _ => rfl) mw_310 dX3_solve_8 (sd_getI clsX0 (f := 0) (by decide) (fun _ _ _ => rfl) mw_269 dX3_solve_11 (sd_icmp_ge (tgt := 41) (by decide) dX3_solve_14 (sd_aload_n (i := 0) rfl dX3_solve_41 (sd_getR clsX3 (f := 0) (by decide) (fun _ _ _ => rfl) mw_308 dX3_solve_42 (sd_aload_n (i := 0) rfl dX3_solve_45 (sd_getR clsX3 (f := 2) (by decide) (fun _ _ _ => rfl) mw_310 dX3_solve_46 (sd_getI clsX0 (f := 0) (by decide) (fun _ _ _ => rfl) mw_269 dX3_solve_49 (sd_sipush (v := 256) (by decide) dX3_solve_52 (sd_imul dX3_solve_55 (sd_aload_n (i := 0) rfl dX3_solve_56 (sd_getI clsX3 (f := 4) (by decide) (fun _ _ _ => rfl) mw_312 dX3_solve_57 (sd_iadd dX3_solve_60 (sd_laload dX3_solve_61 (sd_lret rfl (by decide) (by decide) dX3_solve_62)))))))))))) (sd_aload_n (i := 0) rfl dX3_solve_17 (sd_iload_n (i := 2) rfl dX3_solve_18 (sd_callV (Y' := YX3_rest) (mc' := 0) (ms' := 0) (n := 1) clsX3.1 mw_816 mw_818 mw_19 mw_104 mw_819 rfl (okmX3_rest) (by decide) (Nat.le_refl _) (by decide) (by decide) dX3_solve_19 (sd_iload_n (i := 1) rfl dX3_solve_22 (sd_iload_n (i := 2) rfl dX3_solve_23 (sd_ishr dX3_solve_24 (sd_iconst (v := 1) (by decide) dX3_solve_25 (sd_iand dX3_solve_26 (sd_if_ne (tgt := 35) (by decide) dX3_solve_27 (sd_iinc (i := 2) (v := 1) (by decide) (by decide) dX3_solve_35 (sd_goto (tgt := 6) (by decide) dX3_solve_38 (Sd.go))) (sd_aload_n (i := 0) rfl dX3_solve_30 (sd_iload_n (i := 2) rfl dX3_solve_31 (sd_callV (Y' := YX3_play) (mc' := 0) (ms' := 0) (n := 1) clsX3.1 mw_821 mw_823 mw_20 mw_104 mw_824 rfl (okmX3_play) (by decide) (Nat.le_refl _) (by decide) (by decide) dX3_solve_32 (sd_iinc (i := 2) (v := 1) (by decide) (by decide) dX3_solve_35 (sd_goto (tgt := 6) (by decide) dX3_solve_38 (Sd.go))))))))))))))))))) : Sd l E YX3_solve (d + 1) 0 0 Q 0 0 6 (bX3_solve_6 l E d Q)) ls st h hB
theorem eX3_solve {l : Launch} {E : Ev} {d : Nat} {Q : Option Value → Hp → Prop} {h : Hp} {a0 : Nat} {x1 : Int32} (hk : Go l E YX3_solve d 0 0 Q 0 0 0 [some (.ref a0), some (.int x1), none] [] h) : GoM l E YX3_solve d 0 0 [.ref a0, .int x1] h Q := GoM.of (by decide +kernel) rfl (by simp [entA, YX3_solve]) hk
theorem dX3_rest_0 : decode cX3_rest 0 = .ok (.aload_n 0, 1) := by decide +kernel
theorem dX3_rest_1 : decode cX3_rest 1 = .ok (.getfield 9, 3) := by decide +kernel
theorem dX3_rest_4 : decode cX3_rest 4 = .ok (.iload_n 1, 1) := by decide +kernel
theorem dX3_rest_5 : decode cX3_rest 5 = .ok (.sipush 256, 3) := by decide +kernel
theorem dX3_rest_8 : decode cX3_rest 8 = .ok (.imul, 1) := by decide +kernel
theorem dX3_rest_9 : decode cX3_rest 9 = .ok (.aload_n 0, 1) := by decide +kernel
theorem dX3_rest_10 : decode cX3_rest 10 = .ok (.getfield 9, 3) := by decide +kernel
theorem dX3_rest_13 : decode cX3_rest 13 = .ok (.iload_n 1, 1) := by decide +kernel
theorem dX3_rest_14 : decode cX3_rest 14 = .ok (.iconst 1, 1) := by decide +kernel
theorem dX3_rest_15 : decode cX3_rest 15 = .ok (.iadd, 1) := by decide +kernel
theorem dX3_rest_16 : decode cX3_rest 16 = .ok (.sipush 256, 3) := by decide +kernel
theorem dX3_rest_19 : decode cX3_rest 19 = .ok (.imul, 1) := by decide +kernel
theorem dX3_rest_20 : decode cX3_rest 20 = .ok (.aload_n 0, 1) := by decide +kernel
theorem dX3_rest_21 : decode cX3_rest 21 = .ok (.getfield 60, 3) := by decide +kernel
theorem dX3_rest_24 : decode cX3_rest 24 = .ok (.invokestatic 88, 3) := by decide +kernel
theorem dX3_rest_27 : decode cX3_rest 27 = .ok (.return_, 1) := by decide +kernel
def bX3_rest_0 (l : Launch) (E : Ev) (d : Nat) (Q : Option Value → Hp → Prop) : Kt := k_aload 0 (k_getR 3 10 0 (k_iload 1 (k_push (.int 256) (k_imul (k_aload 0 (k_getR 3 10 0 (k_iload 1 (k_push (.int 1) (k_iadd (k_push (.int 256) (k_imul (k_aload 0 (k_getI 3 10 3 (k_copyJ (k_vret Q)))))))))))))))
set_option maxRecDepth 100000 in
set_option maxHeartbeats 4000000 in
theorem gX3_rest_0 {l : Launch} {E : Ev} {d : Nat} {Q : Option Value → Hp → Prop} {ls : Lv} {st : List Value} {h : Hp} (hB : bX3_rest_0 l E d Q ls st h) : Go l E YX3_rest (d + 1) 0 0 Q 0 0 0 ls st h :=
  (sd_aload_n (i := 0) rfl dX3_rest_0 (sd_getR clsX3 (f := 0) (by decide) (fun _ _ _ => rfl) mw_308 dX3_rest_1 (sd_iload_n (i := 1) rfl dX3_rest_4 (sd_sipush (v := 256) (by decide) dX3_rest_5 (sd_imul dX3_rest_8 (sd_aload_n (i := 0) rfl dX3_rest_9 (sd_getR clsX3 (f := 0) (by decide) (fun _ _ _ => rfl) mw_308 dX3_rest_10 (sd_iload_n (i := 1) rfl dX3_rest_13 (sd_iconst (v := 1) (by decide) dX3_rest_14 (sd_iadd dX3_rest_15 (sd_sipush (v := 256) (by decide) dX3_rest_16 (sd_imul dX3_rest_19 (sd_aload_n (i := 0) rfl dX3_rest_20 (sd_getI clsX3 (f := 3) (by decide) (fun _ _ _ => rfl) mw_311 dX3_rest_21 (sd_copyJ mw_820 mw_744 mw_743 mw_116 (by omega) dX3_rest_24 (sd_vret rfl (by decide) (by decide) dX3_rest_27))))))))))))))) : Sd l E YX3_rest (d + 1) 0 0 Q 0 0 0 (bX3_rest_0 l E d Q)) ls st h hB
theorem eX3_rest {l : Launch} {E : Ev} {d : Nat} {Q : Option Value → Hp → Prop} {h : Hp} {a0 : Nat} {x1 : Int32} (hk : Go l E YX3_rest d 0 0 Q 0 0 0 [some (.ref a0), some (.int x1)] [] h) : GoM l E YX3_rest d 0 0 [.ref a0, .int x1] h Q := GoM.of (by decide +kernel) rfl (by simp [entA, YX3_rest]) hk
theorem dX3_play_0 : decode cX3_play 0 = .ok (.aload_n 0, 1) := by decide +kernel
theorem dX3_play_1 : decode cX3_play 1 = .ok (.getfield 26, 3) := by decide +kernel
theorem dX3_play_4 : decode cX3_play 4 = .ok (.getfield 94, 3) := by decide +kernel
theorem dX3_play_7 : decode cX3_play 7 = .ok (.iload_n 1, 1) := by decide +kernel
theorem dX3_play_8 : decode cX3_play 8 = .ok (.iaload, 1) := by decide +kernel
theorem dX3_play_9 : decode cX3_play 9 = .ok (.aload_n 0, 1) := by decide +kernel
theorem dX3_play_10 : decode cX3_play 10 = .ok (.getfield 63, 3) := by decide +kernel
theorem dX3_play_13 : decode cX3_play 13 = .ok (.iand, 1) := by decide +kernel
theorem dX3_play_14 : decode cX3_play 14 = .ok (.aload_n 0, 1) := by decide +kernel
theorem dX3_play_15 : decode cX3_play 15 = .ok (.aload_n 0, 1) := by decide +kernel
theorem dX3_play_16 : decode cX3_play 16 = .ok (.getfield 15, 3) := by decide +kernel
theorem dX3_play_19 : decode cX3_play 19 = .ok (.iload_n 1, 1) := by decide +kernel
theorem dX3_play_20 : decode cX3_play 20 = .ok (.iaload, 1) := by decide +kernel
theorem dX3_play_21 : decode cX3_play 21 = .ok (.invokevirtual 97, 3) := by decide +kernel
theorem dX3_play_24 : decode cX3_play 24 = .ok (.iand, 1) := by decide +kernel
theorem dX3_play_25 : decode cX3_play 25 = .ok (.istore_n 2, 1) := by decide +kernel
theorem dX3_play_26 : decode cX3_play 26 = .ok (.iconst 0, 1) := by decide +kernel
theorem dX3_play_27 : decode cX3_play 27 = .ok (.istore_n 3, 1) := by decide +kernel
theorem dX3_play_28 : decode cX3_play 28 = .ok (.iload_n 3, 1) := by decide +kernel
theorem dX3_play_29 : decode cX3_play 29 = .ok (.aload_n 0, 1) := by decide +kernel
theorem dX3_play_30 : decode cX3_play 30 = .ok (.getfield 26, 3) := by decide +kernel
theorem dX3_play_33 : decode cX3_play 33 = .ok (.getfield 55, 3) := by decide +kernel
theorem dX3_play_36 : decode cX3_play 36 = .ok (.if_icmp .ge 119, 3) := by decide +kernel
theorem dX3_play_39 : decode cX3_play 39 = .ok (.iload_n 2, 1) := by decide +kernel
theorem dX3_play_40 : decode cX3_play 40 = .ok (.iload_n 3, 1) := by decide +kernel
theorem dX3_play_41 : decode cX3_play 41 = .ok (.ishr, 1) := by decide +kernel
theorem dX3_play_42 : decode cX3_play 42 = .ok (.iconst 1, 1) := by decide +kernel
theorem dX3_play_43 : decode cX3_play 43 = .ok (.iand, 1) := by decide +kernel
theorem dX3_play_44 : decode cX3_play 44 = .ok (.iconst 1, 1) := by decide +kernel
theorem dX3_play_45 : decode cX3_play 45 = .ok (.if_icmp .ne 104, 3) := by decide +kernel
theorem dX3_play_48 : decode cX3_play 48 = .ok (.aload_n 0, 1) := by decide +kernel
theorem dX3_play_49 : decode cX3_play 49 = .ok (.iload_n 1, 1) := by decide +kernel
theorem dX3_play_50 : decode cX3_play 50 = .ok (.iconst 1, 1) := by decide +kernel
theorem dX3_play_51 : decode cX3_play 51 = .ok (.iload_n 3, 1) := by decide +kernel
theorem dX3_play_52 : decode cX3_play 52 = .ok (.ishl, 1) := by decide +kernel
theorem dX3_play_53 : decode cX3_play 53 = .ok (.aload_n 0, 1) := by decide +kernel
theorem dX3_play_54 : decode cX3_play 54 = .ok (.iload_n 1, 1) := by decide +kernel
theorem dX3_play_55 : decode cX3_play 55 = .ok (.iload_n 3, 1) := by decide +kernel
theorem dX3_play_56 : decode cX3_play 56 = .ok (.invokevirtual 101, 3) := by decide +kernel
theorem dX3_play_59 : decode cX3_play 59 = .ok (.invokevirtual 105, 3) := by decide +kernel
theorem dX3_play_62 : decode cX3_play 62 = .ok (.aload_n 0, 1) := by decide +kernel
theorem dX3_play_63 : decode cX3_play 63 = .ok (.getfield 15, 3) := by decide +kernel
theorem dX3_play_66 : decode cX3_play 66 = .ok (.iload_n 1, 1) := by decide +kernel
theorem dX3_play_67 : decode cX3_play 67 = .ok (.iaload, 1) := by decide +kernel
theorem dX3_play_68 : decode cX3_play 68 = .ok (.ifCond .ne 17, 3) := by decide +kernel
theorem dX3_play_71 : decode cX3_play 71 = .ok (.iload_n 2, 1) := by decide +kernel
theorem dX3_play_72 : decode cX3_play 72 = .ok (.aload_n 0, 1) := by decide +kernel
theorem dX3_play_73 : decode cX3_play 73 = .ok (.getfield 26, 3) := by decide +kernel
theorem dX3_play_76 : decode cX3_play 76 = .ok (.getfield 109, 3) := by decide +kernel
theorem dX3_play_79 : decode cX3_play 79 = .ok (.iload_n 3, 1) := by decide +kernel
theorem dX3_play_80 : decode cX3_play 80 = .ok (.iaload, 1) := by decide +kernel
theorem dX3_play_81 : decode cX3_play 81 = .ok (.iand, 1) := by decide +kernel
theorem dX3_play_82 : decode cX3_play 82 = .ok (.goto 4, 3) := by decide +kernel
theorem dX3_play_85 : decode cX3_play 85 = .ok (.iconst 0, 1) := by decide +kernel
theorem dX3_play_86 : decode cX3_play 86 = .ok (.istore 4, 2) := by decide +kernel
theorem dX3_play_88 : decode cX3_play 88 = .ok (.iload_n 3, 1) := by decide +kernel
theorem dX3_play_89 : decode cX3_play 89 = .ok (.iconst 1, 1) := by decide +kernel
theorem dX3_play_90 : decode cX3_play 90 = .ok (.iadd, 1) := by decide +kernel
theorem dX3_play_91 : decode cX3_play 91 = .ok (.istore 5, 2) := by decide +kernel
theorem dX3_play_93 : decode cX3_play 93 = .ok (.iload 5, 2) := by decide +kernel
theorem dX3_play_95 : decode cX3_play 95 = .ok (.aload_n 0, 1) := by decide +kernel
theorem dX3_play_96 : decode cX3_play 96 = .ok (.getfield 26, 3) := by decide +kernel
theorem dX3_play_99 : decode cX3_play 99 = .ok (.getfield 55, 3) := by decide +kernel
theorem dX3_play_102 : decode cX3_play 102 = .ok (.if_icmp .ge 47, 3) := by decide +kernel
theorem dX3_play_105 : decode cX3_play 105 = .ok (.iload 4, 2) := by decide +kernel
theorem dX3_play_107 : decode cX3_play 107 = .ok (.iload 5, 2) := by decide +kernel
theorem dX3_play_109 : decode cX3_play 109 = .ok (.ishr, 1) := by decide +kernel
theorem dX3_play_110 : decode cX3_play 110 = .ok (.iconst 1, 1) := by decide +kernel
theorem dX3_play_111 : decode cX3_play 111 = .ok (.iand, 1) := by decide +kernel
theorem dX3_play_112 : decode cX3_play 112 = .ok (.iconst 1, 1) := by decide +kernel
theorem dX3_play_113 : decode cX3_play 113 = .ok (.if_icmp .ne 30, 3) := by decide +kernel
theorem dX3_play_116 : decode cX3_play 116 = .ok (.aload_n 0, 1) := by decide +kernel
theorem dX3_play_117 : decode cX3_play 117 = .ok (.iload_n 1, 1) := by decide +kernel
theorem dX3_play_118 : decode cX3_play 118 = .ok (.iconst 1, 1) := by decide +kernel
theorem dX3_play_119 : decode cX3_play 119 = .ok (.iload_n 3, 1) := by decide +kernel
theorem dX3_play_120 : decode cX3_play 120 = .ok (.ishl, 1) := by decide +kernel
theorem dX3_play_121 : decode cX3_play 121 = .ok (.iconst 1, 1) := by decide +kernel
theorem dX3_play_122 : decode cX3_play 122 = .ok (.iload 5, 2) := by decide +kernel
theorem dX3_play_124 : decode cX3_play 124 = .ok (.ishl, 1) := by decide +kernel
theorem dX3_play_125 : decode cX3_play 125 = .ok (.ior, 1) := by decide +kernel
theorem dX3_play_126 : decode cX3_play 126 = .ok (.aload_n 0, 1) := by decide +kernel
theorem dX3_play_127 : decode cX3_play 127 = .ok (.iload_n 1, 1) := by decide +kernel
theorem dX3_play_128 : decode cX3_play 128 = .ok (.iload_n 3, 1) := by decide +kernel
theorem dX3_play_129 : decode cX3_play 129 = .ok (.invokevirtual 101, 3) := by decide +kernel
theorem dX3_play_132 : decode cX3_play 132 = .ok (.aload_n 0, 1) := by decide +kernel
theorem dX3_play_133 : decode cX3_play 133 = .ok (.iload_n 1, 1) := by decide +kernel
theorem dX3_play_134 : decode cX3_play 134 = .ok (.iload 5, 2) := by decide +kernel
theorem dX3_play_136 : decode cX3_play 136 = .ok (.invokevirtual 101, 3) := by decide +kernel
theorem dX3_play_139 : decode cX3_play 139 = .ok (.ladd, 1) := by decide +kernel
theorem dX3_play_140 : decode cX3_play 140 = .ok (.invokevirtual 105, 3) := by decide +kernel
theorem dX3_play_143 : decode cX3_play 143 = .ok (.iinc 5 1, 3) := by decide +kernel
theorem dX3_play_146 : decode cX3_play 146 = .ok (.goto (-53), 3) := by decide +kernel
theorem dX3_play_149 : decode cX3_play 149 = .ok (.iinc 3 1, 3) := by decide +kernel
theorem dX3_play_152 : decode cX3_play 152 = .ok (.goto (-124), 3) := by decide +kernel
theorem dX3_play_155 : decode cX3_play 155 = .ok (.return_, 1) := by decide +kernel
def bX3_play_0 (l : Launch) (E : Ev) (d : Nat) (Q : Option Value → Hp → Prop) : Kt := k_aload 0 (k_getR 3 10 2 (k_getR 0 7 2 (k_iload 1 (k_iaload (k_aload 0 (k_getI 3 10 4 (k_iand (k_aload 0 (k_aload 0 (k_getR 3 10 5 (k_iload 1 (k_iaload (k_callV l E 3 10 YX3_roomBeside d 0 0 1 (k_iand (k_istore 2 (k_push (.int 0) (k_istore 3 (Go l E YX3_play (d + 1) 0 0 Q 0 0 28))))))))))))))))))
set_option maxRecDepth 100000 in
set_option maxHeartbeats 4000000 in
theorem gX3_play_0 {l : Launch} {E : Ev} {d : Nat} {Q : Option Value → Hp → Prop} {ls : Lv} {st : List Value} {h : Hp} (hB : bX3_play_0 l E d Q ls st h) : Go l E YX3_play (d + 1) 0 0 Q 0 0 0 ls st h :=
  (sd_aload_n (i := 0) rfl dX3_play_0 (sd_getR clsX3 (f := 2) (by decide) (fun _ _ _ => rfl) mw_310 dX3_play_1 (sd_getR clsX0 (f := 2) (by decide) (fun _ _ _ => rfl) mw_276 dX3_play_4 (sd_iload_n (i := 1) rfl dX3_play_7 (sd_iaload dX3_play_8 (sd_aload_n (i := 0) rfl dX3_play_9 (sd_getI clsX3 (f := 4) (by decide) (fun _ _ _ => rfl) mw_312 dX3_play_10 (sd_iand dX3_play_13 (sd_aload_n (i := 0) rfl dX3_play_14 (sd_aload_n (i := 0) rfl dX3_play_15 (sd_getR clsX3 (f := 5) (by decide) (fun _ _ _ => rfl) mw_313 dX3_play_16 (sd_iload_n (i := 1) rfl dX3_play_19 (sd_iaload dX3_play_20 (sd_callV (Y' := YX3_roomBeside) (mc' := 0) (ms' := 0) (n := 1) clsX3.1 mw_825 mw_827 mw_21 mw_104 mw_828 rfl (okmX3_roomBeside) (by decide) (Nat.le_refl _) (by decide) (by decide) dX3_play_21 (sd_iand dX3_play_24 (sd_istore_n (i := 2) rfl (by decide) dX3_play_25 (sd_iconst (v := 0) (by decide) dX3_play_26 (sd_istore_n (i := 3) rfl (by decide) dX3_play_27 (Sd.go)))))))))))))))))) : Sd l E YX3_play (d + 1) 0 0 Q 0 0 0 (bX3_play_0 l E d Q)) ls st h hB
def bX3_play_28 (l : Launch) (E : Ev) (d : Nat) (Q : Option Value → Hp → Prop) : Kt := k_iload 3 (k_aload 0 (k_getR 3 10 2 (k_getI 0 7 1 (k_icmp_ge (k_vret Q) (k_iload 2 (k_iload 3 (k_ishr (k_push (.int 1) (k_iand (k_push (.int 1) (k_icmp_ne (k_iinc 3 1 (Go l E YX3_play (d + 1) 0 0 Q 0 0 28)) (k_aload 0 (k_iload 1 (k_push (.int 1) (k_iload 3 (k_ishl (k_aload 0 (k_iload 1 (k_iload 3 (k_callV l E 3 10 YX3_weight d 0 0 2 (k_callV l E 3 10 YX3_spread d 0 0 3 (k_aload 0 (k_getR 3 10 5 (k_iload 1 (k_iaload (k_if_ne (k_push (.int 0) (k_istore 4 (k_iload 3 (k_push (.int 1) (k_iadd (k_istore 5 (Go l E YX3_play (d + 1) 0 0 Q 0 0 93))))))) (k_iload 2 (k_aload 0 (k_getR 3 10 2 (k_getR 0 7 4 (k_iload 3 (k_iaload (k_iand (k_istore 4 (k_iload 3 (k_push (.int 1) (k_iadd (k_istore 5 (Go l E YX3_play (d + 1) 0 0 Q 0 0 93)))))))))))))))))))))))))))))))))))))))
set_option maxRecDepth 100000 in
set_option maxHeartbeats 4000000 in
theorem gX3_play_28 {l : Launch} {E : Ev} {d : Nat} {Q : Option Value → Hp → Prop} {ls : Lv} {st : List Value} {h : Hp} (hB : bX3_play_28 l E d Q ls st h) : Go l E YX3_play (d + 1) 0 0 Q 0 0 28 ls st h :=
  (sd_iload_n (i := 3) rfl dX3_play_28 (sd_aload_n (i := 0) rfl dX3_play_29 (sd_getR clsX3 (f := 2) (by decide) (fun _ _ _ => rfl) mw_310 dX3_play_30 (sd_getI clsX0 (f := 1) (by decide) (fun _ _ _ => rfl) mw_272 dX3_play_33 (sd_icmp_ge (tgt := 155) (by decide) dX3_play_36 (sd_vret rfl (by decide) (by decide) dX3_play_155) (sd_iload_n (i := 2) rfl dX3_play_39 (sd_iload_n (i := 3) rfl dX3_play_40 (sd_ishr dX3_play_41 (sd_iconst (v := 1) (by decide) dX3_play_42 (sd_iand dX3_play_43 (sd_iconst (v := 1) (by decide) dX3_play_44 (sd_icmp_ne (tgt := 149) (by decide) dX3_play_45 (sd_iinc (i := 3) (v := 1) (by decide) (by decide) dX3_play_149 (sd_goto (tgt := 28) (by decide) dX3_play_152 (Sd.go))) (sd_aload_n (i := 0) rfl dX3_play_48 (sd_iload_n (i := 1) rfl dX3_play_49 (sd_iconst (v := 1) (by decide) dX3_play_50 (sd_iload_n (i := 3) rfl dX3_play_51 (sd_ishl dX3_play_52 (sd_aload_n (i := 0) rfl dX3_play_53 (sd_iload_n (i := 1) rfl dX3_play_54 (sd_iload_n (i := 3) rfl dX3_play_55 (sd_callV (Y' := YX3_weight) (mc' := 0) (ms' := 0) (n := 2) clsX3.1 mw_833 mw_835 mw_22 mw_104 mw_836 rfl (okmX3_weight) (by decide) (Nat.le_refl _) (by decide) (by decide) dX3_play_56 (sd_callV (Y' := YX3_spread) (mc' := 0) (ms' := 0) (n := 3) clsX3.1 mw_837 mw_839 mw_23 mw_104 mw_840 rfl (okmX3_spread) (by decide) (Nat.le_refl _) (by decide) (by decide) dX3_play_59 (sd_aload_n (i := 0) rfl dX3_play_62 (sd_getR clsX3 (f := 5) (by decide) (fun _ _ _ => rfl) mw_313 dX3_play_63 (sd_iload_n (i := 1) rfl dX3_play_66 (sd_iaload dX3_play_67 (sd_if_ne (tgt := 85) (by decide) dX3_play_68 (sd_iconst (v := 0) (by decide) dX3_play_85 (sd_istore (i := 4) (by decide) dX3_play_86 (sd_iload_n (i := 3) rfl dX3_play_88 (sd_iconst (v := 1) (by decide) dX3_play_89 (sd_iadd dX3_play_90 (sd_istore (i := 5) (by decide) dX3_play_91 (Sd.go))))))) (sd_iload_n (i := 2) rfl dX3_play_71 (sd_aload_n (i := 0) rfl dX3_play_72 (sd_getR clsX3 (f := 2) (by decide) (fun _ _ _ => rfl) mw_310 dX3_play_73 (sd_getR clsX0 (f := 4) (by decide) (fun _ _ _ => rfl) mw_283 dX3_play_76 (sd_iload_n (i := 3) rfl dX3_play_79 (sd_iaload dX3_play_80 (sd_iand dX3_play_81 (sd_goto (tgt := 86) (by decide) dX3_play_82 (sd_istore (i := 4) (by decide) dX3_play_86 (sd_iload_n (i := 3) rfl dX3_play_88 (sd_iconst (v := 1) (by decide) dX3_play_89 (sd_iadd dX3_play_90 (sd_istore (i := 5) (by decide) dX3_play_91 (Sd.go)))))))))))))))))))))))))))))))))))))))) : Sd l E YX3_play (d + 1) 0 0 Q 0 0 28 (bX3_play_28 l E d Q)) ls st h hB
def bX3_play_93 (l : Launch) (E : Ev) (d : Nat) (Q : Option Value → Hp → Prop) : Kt := k_iload 5 (k_aload 0 (k_getR 3 10 2 (k_getI 0 7 1 (k_icmp_ge (k_iinc 3 1 (Go l E YX3_play (d + 1) 0 0 Q 0 0 28)) (k_iload 4 (k_iload 5 (k_ishr (k_push (.int 1) (k_iand (k_push (.int 1) (k_icmp_ne (k_iinc 5 1 (Go l E YX3_play (d + 1) 0 0 Q 0 0 93)) (k_aload 0 (k_iload 1 (k_push (.int 1) (k_iload 3 (k_ishl (k_push (.int 1) (k_iload 5 (k_ishl (k_ior (k_aload 0 (k_iload 1 (k_iload 3 (k_callV l E 3 10 YX3_weight d 0 0 2 (k_aload 0 (k_iload 1 (k_iload 5 (k_callV l E 3 10 YX3_weight d 0 0 2 (k_ladd (k_callV l E 3 10 YX3_spread d 0 0 3 (k_iinc 5 1 (Go l E YX3_play (d + 1) 0 0 Q 0 0 93))))))))))))))))))))))))))))))))
set_option maxRecDepth 100000 in
set_option maxHeartbeats 4000000 in
theorem gX3_play_93 {l : Launch} {E : Ev} {d : Nat} {Q : Option Value → Hp → Prop} {ls : Lv} {st : List Value} {h : Hp} (hB : bX3_play_93 l E d Q ls st h) : Go l E YX3_play (d + 1) 0 0 Q 0 0 93 ls st h :=
  (sd_iload (n := 5) dX3_play_93 (sd_aload_n (i := 0) rfl dX3_play_95 (sd_getR clsX3 (f := 2) (by decide) (fun _ _ _ => rfl) mw_310 dX3_play_96 (sd_getI clsX0 (f := 1) (by decide) (fun _ _ _ => rfl) mw_272 dX3_play_99 (sd_icmp_ge (tgt := 149) (by decide) dX3_play_102 (sd_iinc (i := 3) (v := 1) (by decide) (by decide) dX3_play_149 (sd_goto (tgt := 28) (by decide) dX3_play_152 (Sd.go))) (sd_iload (n := 4) dX3_play_105 (sd_iload (n := 5) dX3_play_107 (sd_ishr dX3_play_109 (sd_iconst (v := 1) (by decide) dX3_play_110 (sd_iand dX3_play_111 (sd_iconst (v := 1) (by decide) dX3_play_112 (sd_icmp_ne (tgt := 143) (by decide) dX3_play_113 (sd_iinc (i := 5) (v := 1) (by decide) (by decide) dX3_play_143 (sd_goto (tgt := 93) (by decide) dX3_play_146 (Sd.go))) (sd_aload_n (i := 0) rfl dX3_play_116 (sd_iload_n (i := 1) rfl dX3_play_117 (sd_iconst (v := 1) (by decide) dX3_play_118 (sd_iload_n (i := 3) rfl dX3_play_119 (sd_ishl dX3_play_120 (sd_iconst (v := 1) (by decide) dX3_play_121 (sd_iload (n := 5) dX3_play_122 (sd_ishl dX3_play_124 (sd_ior dX3_play_125 (sd_aload_n (i := 0) rfl dX3_play_126 (sd_iload_n (i := 1) rfl dX3_play_127 (sd_iload_n (i := 3) rfl dX3_play_128 (sd_callV (Y' := YX3_weight) (mc' := 0) (ms' := 0) (n := 2) clsX3.1 mw_833 mw_835 mw_22 mw_104 mw_836 rfl (okmX3_weight) (by decide) (Nat.le_refl _) (by decide) (by decide) dX3_play_129 (sd_aload_n (i := 0) rfl dX3_play_132 (sd_iload_n (i := 1) rfl dX3_play_133 (sd_iload (n := 5) dX3_play_134 (sd_callV (Y' := YX3_weight) (mc' := 0) (ms' := 0) (n := 2) clsX3.1 mw_833 mw_835 mw_22 mw_104 mw_836 rfl (okmX3_weight) (by decide) (Nat.le_refl _) (by decide) (by decide) dX3_play_136 (sd_ladd dX3_play_139 (sd_callV (Y' := YX3_spread) (mc' := 0) (ms' := 0) (n := 3) clsX3.1 mw_837 mw_839 mw_23 mw_104 mw_840 rfl (okmX3_spread) (by decide) (Nat.le_refl _) (by decide) (by decide) dX3_play_140 (sd_iinc (i := 5) (v := 1) (by decide) (by decide) dX3_play_143 (sd_goto (tgt := 93) (by decide) dX3_play_146 (Sd.go))))))))))))))))))))))))))))))))) : Sd l E YX3_play (d + 1) 0 0 Q 0 0 93 (bX3_play_93 l E d Q)) ls st h hB
theorem eX3_play {l : Launch} {E : Ev} {d : Nat} {Q : Option Value → Hp → Prop} {h : Hp} {a0 : Nat} {x1 : Int32} (hk : Go l E YX3_play d 0 0 Q 0 0 0 [some (.ref a0), some (.int x1), none, none, none, none] [] h) : GoM l E YX3_play d 0 0 [.ref a0, .int x1] h Q := GoM.of (by decide +kernel) rfl (by simp [entA, YX3_play]) hk
theorem dX3_roomBeside_0 : decode cX3_roomBeside 0 = .ok (.iload_n 1, 1) := by decide +kernel
theorem dX3_roomBeside_1 : decode cX3_roomBeside 1 = .ok (.ifCond .ne 7, 3) := by decide +kernel
theorem dX3_roomBeside_4 : decode cX3_roomBeside 4 = .ok (.sipush 255, 3) := by decide +kernel
theorem dX3_roomBeside_7 : decode cX3_roomBeside 7 = .ok (.ireturn, 1) := by decide +kernel
theorem dX3_roomBeside_8 : decode cX3_roomBeside 8 = .ok (.iload_n 1, 1) := by decide +kernel
theorem dX3_roomBeside_9 : decode cX3_roomBeside 9 = .ok (.invokestatic 112, 3) := by decide +kernel
theorem dX3_roomBeside_12 : decode cX3_roomBeside 12 = .ok (.istore_n 2, 1) := by decide +kernel
theorem dX3_roomBeside_13 : decode cX3_roomBeside 13 = .ok (.iload_n 1, 1) := by decide +kernel
theorem dX3_roomBeside_14 : decode cX3_roomBeside 14 = .ok (.iconst 1, 1) := by decide +kernel
theorem dX3_roomBeside_15 : decode cX3_roomBeside 15 = .ok (.iload_n 2, 1) := by decide +kernel
theorem dX3_roomBeside_16 : decode cX3_roomBeside 16 = .ok (.ishl, 1) := by decide +kernel
theorem dX3_roomBeside_17 : decode cX3_roomBeside 17 = .ok (.if_icmp .ne 21, 3) := by decide +kernel
theorem dX3_roomBeside_20 : decode cX3_roomBeside 20 = .ok (.iload_n 2, 1) := by decide +kernel
theorem dX3_roomBeside_21 : decode cX3_roomBeside 21 = .ok (.bipush 8, 2) := by decide +kernel
theorem dX3_roomBeside_23 : decode cX3_roomBeside 23 = .ok (.if_icmp .ge 15, 3) := by decide +kernel
theorem dX3_roomBeside_26 : decode cX3_roomBeside 26 = .ok (.aload_n 0, 1) := by decide +kernel
theorem dX3_roomBeside_27 : decode cX3_roomBeside 27 = .ok (.getfield 26, 3) := by decide +kernel
theorem dX3_roomBeside_30 : decode cX3_roomBeside 30 = .ok (.getfield 109, 3) := by decide +kernel
theorem dX3_roomBeside_33 : decode cX3_roomBeside 33 = .ok (.iload_n 2, 1) := by decide +kernel
theorem dX3_roomBeside_34 : decode cX3_roomBeside 34 = .ok (.iaload, 1) := by decide +kernel
theorem dX3_roomBeside_35 : decode cX3_roomBeside 35 = .ok (.goto 4, 3) := by decide +kernel
theorem dX3_roomBeside_38 : decode cX3_roomBeside 38 = .ok (.iconst 0, 1) := by decide +kernel
theorem dX3_roomBeside_39 : decode cX3_roomBeside 39 = .ok (.ireturn, 1) := by decide +kernel
def bX3_roomBeside_0 (l : Launch) (E : Ev) (d : Nat) (Q : Option Value → Hp → Prop) : Kt := k_iload 1 (k_if_ne (k_iload 1 (k_callS l E YJ6_numberOfTrailingZeros_0f7a4 d 0 0 1 (k_istore 2 (k_iload 1 (k_push (.int 1) (k_iload 2 (k_ishl (k_icmp_ne (k_push (.int 0) (k_iret .int Q)) (k_iload 2 (k_push (.int 8) (k_icmp_ge (k_push (.int 0) (k_iret .int Q)) (k_aload 0 (k_getR 3 10 2 (k_getR 0 7 4 (k_iload 2 (k_iaload (k_iret .int Q))))))))))))))))) (k_push (.int 255) (k_iret .int Q)))
set_option maxRecDepth 100000 in
set_option maxHeartbeats 4000000 in
theorem gX3_roomBeside_0 {l : Launch} {E : Ev} {d : Nat} {Q : Option Value → Hp → Prop} {ls : Lv} {st : List Value} {h : Hp} (hB : bX3_roomBeside_0 l E d Q ls st h) : Go l E YX3_roomBeside (d + 1) 0 0 Q 0 0 0 ls st h :=
  (sd_iload_n (i := 1) rfl dX3_roomBeside_0 (sd_if_ne (tgt := 8) (by decide) dX3_roomBeside_1 (sd_iload_n (i := 1) rfl dX3_roomBeside_8 (sd_callS (Y' := YJ6_numberOfTrailingZeros_0f7a4) (mc' := 0) (ms' := 0) (n := 1) mw_829 mw_830 mw_117 mw_831 (okmJ6_numberOfTrailingZeros_0f7a4) (by decide) (Nat.le_refl _) (by decide) (by decide) dX3_roomBeside_9 (sd_istore_n (i := 2) rfl (by decide) dX3_roomBeside_12 (sd_iload_n (i := 1) rfl dX3_roomBeside_13 (sd_iconst (v := 1) (by decide) dX3_roomBeside_14 (sd_iload_n (i := 2) rfl dX3_roomBeside_15 (sd_ishl dX3_roomBeside_16 (sd_icmp_ne (tgt := 38) (by decide) dX3_roomBeside_17 (sd_iconst (v := 0) (by decide) dX3_roomBeside_38 (sd_iret (ty := .int) rfl (by decide) (by decide) dX3_roomBeside_39)) (sd_iload_n (i := 2) rfl dX3_roomBeside_20 (sd_bipush (v := 8) (by decide) dX3_roomBeside_21 (sd_icmp_ge (tgt := 38) (by decide) dX3_roomBeside_23 (sd_iconst (v := 0) (by decide) dX3_roomBeside_38 (sd_iret (ty := .int) rfl (by decide) (by decide) dX3_roomBeside_39)) (sd_aload_n (i := 0) rfl dX3_roomBeside_26 (sd_getR clsX3 (f := 2) (by decide) (fun _ _ _ => rfl) mw_310 dX3_roomBeside_27 (sd_getR clsX0 (f := 4) (by decide) (fun _ _ _ => rfl) mw_283 dX3_roomBeside_30 (sd_iload_n (i := 2) rfl dX3_roomBeside_33 (sd_iaload dX3_roomBeside_34 (sd_goto (tgt := 39) (by decide) dX3_roomBeside_35 (sd_iret (ty := .int) rfl (by decide) (by decide) dX3_roomBeside_39)))))))))))))))))) (sd_sipush (v := 255) (by decide) dX3_roomBeside_4 (sd_iret (ty := .int) rfl (by decide) (by decide) dX3_roomBeside_7))) : Sd l E YX3_roomBeside (d + 1) 0 0 Q 0 0 0 (bX3_roomBeside_0 l E d Q)) ls st h hB
theorem eX3_roomBeside {l : Launch} {E : Ev} {d : Nat} {Q : Option Value → Hp → Prop} {h : Hp} {a0 : Nat} {x1 : Int32} (hk : Go l E YX3_roomBeside d 0 0 Q 0 0 0 [some (.ref a0), some (.int x1), none] [] h) : GoM l E YX3_roomBeside d 0 0 [.ref a0, .int x1] h Q := GoM.of (by decide +kernel) rfl (by simp [entA, YX3_roomBeside]) hk
theorem dX3_weight_0 : decode cX3_weight 0 = .ok (.aload_n 0, 1) := by decide +kernel
theorem dX3_weight_1 : decode cX3_weight 1 = .ok (.getfield 26, 3) := by decide +kernel
theorem dX3_weight_4 : decode cX3_weight 4 = .ok (.getfield 117, 3) := by decide +kernel
theorem dX3_weight_7 : decode cX3_weight 7 = .ok (.iload_n 1, 1) := by decide +kernel
theorem dX3_weight_8 : decode cX3_weight 8 = .ok (.bipush 8, 2) := by decide +kernel
theorem dX3_weight_10 : decode cX3_weight 10 = .ok (.imul, 1) := by decide +kernel
theorem dX3_weight_11 : decode cX3_weight 11 = .ok (.iload_n 2, 1) := by decide +kernel
theorem dX3_weight_12 : decode cX3_weight 12 = .ok (.iadd, 1) := by decide +kernel
theorem dX3_weight_13 : decode cX3_weight 13 = .ok (.iaload, 1) := by decide +kernel
theorem dX3_weight_14 : decode cX3_weight 14 = .ok (.i2l, 1) := by decide +kernel
theorem dX3_weight_15 : decode cX3_weight 15 = .ok (.lstore_n 3, 1) := by decide +kernel
theorem dX3_weight_16 : decode cX3_weight 16 = .ok (.aload_n 0, 1) := by decide +kernel
theorem dX3_weight_17 : decode cX3_weight 17 = .ok (.getfield 52, 3) := by decide +kernel
theorem dX3_weight_20 : decode cX3_weight 20 = .ok (.ifCond .ne 18, 3) := by decide +kernel
theorem dX3_weight_23 : decode cX3_weight 23 = .ok (.lload_n 3, 1) := by decide +kernel
theorem dX3_weight_24 : decode cX3_weight 24 = .ok (.bipush 24, 2) := by decide +kernel
theorem dX3_weight_26 : decode cX3_weight 26 = .ok (.lshl, 1) := by decide +kernel
theorem dX3_weight_27 : decode cX3_weight 27 = .ok (.iload_n 1, 1) := by decide +kernel
theorem dX3_weight_28 : decode cX3_weight 28 = .ok (.i2l, 1) := by decide +kernel
theorem dX3_weight_29 : decode cX3_weight 29 = .ok (.iconst 3, 1) := by decide +kernel
theorem dX3_weight_30 : decode cX3_weight 30 = .ok (.bipush 7, 2) := by decide +kernel
theorem dX3_weight_32 : decode cX3_weight 32 = .ok (.iload_n 2, 1) := by decide +kernel
theorem dX3_weight_33 : decode cX3_weight 33 = .ok (.isub, 1) := by decide +kernel
theorem dX3_weight_34 : decode cX3_weight 34 = .ok (.imul, 1) := by decide +kernel
theorem dX3_weight_35 : decode cX3_weight 35 = .ok (.lshl, 1) := by decide +kernel
theorem dX3_weight_36 : decode cX3_weight 36 = .ok (.lor, 1) := by decide +kernel
theorem dX3_weight_37 : decode cX3_weight 37 = .ok (.lreturn, 1) := by decide +kernel
theorem dX3_weight_38 : decode cX3_weight 38 = .ok (.aload_n 0, 1) := by decide +kernel
theorem dX3_weight_39 : decode cX3_weight 39 = .ok (.getfield 52, 3) := by decide +kernel
theorem dX3_weight_42 : decode cX3_weight 42 = .ok (.iconst 1, 1) := by decide +kernel
theorem dX3_weight_43 : decode cX3_weight 43 = .ok (.if_icmp .ne 10, 3) := by decide +kernel
theorem dX3_weight_46 : decode cX3_weight 46 = .ok (.lload_n 3, 1) := by decide +kernel
theorem dX3_weight_47 : decode cX3_weight 47 = .ok (.bipush 32, 2) := by decide +kernel
theorem dX3_weight_49 : decode cX3_weight 49 = .ok (.lshl, 1) := by decide +kernel
theorem dX3_weight_50 : decode cX3_weight 50 = .ok (.goto 4, 3) := by decide +kernel
theorem dX3_weight_53 : decode cX3_weight 53 = .ok (.lconst 0, 1) := by decide +kernel
theorem dX3_weight_54 : decode cX3_weight 54 = .ok (.lreturn, 1) := by decide +kernel
def bX3_weight_0 (l : Launch) (E : Ev) (d : Nat) (Q : Option Value → Hp → Prop) : Kt := k_aload 0 (k_getR 3 10 2 (k_getR 0 7 3 (k_iload 1 (k_push (.int 8) (k_imul (k_iload 2 (k_iadd (k_iaload (k_i2l (k_lstore 3 (k_aload 0 (k_getI 3 10 1 (k_if_ne (k_aload 0 (k_getI 3 10 1 (k_push (.int 1) (k_icmp_ne (k_push (.long 0) (k_lret Q)) (k_lload 3 (k_push (.int 32) (k_lshl (k_lret Q)))))))) (k_lload 3 (k_push (.int 24) (k_lshl (k_iload 1 (k_i2l (k_push (.int 3) (k_push (.int 7) (k_iload 2 (k_isub (k_imul (k_lshl (k_lor (k_lret Q))))))))))))))))))))))))))
set_option maxRecDepth 100000 in
set_option maxHeartbeats 4000000 in
theorem gX3_weight_0 {l : Launch} {E : Ev} {d : Nat} {Q : Option Value → Hp → Prop} {ls : Lv} {st : List Value} {h : Hp} (hB : bX3_weight_0 l E d Q ls st h) : Go l E YX3_weight (d + 1) 0 0 Q 0 0 0 ls st h :=
  (sd_aload_n (i := 0) rfl dX3_weight_0 (sd_getR clsX3 (f := 2) (by decide) (fun _ _ _ => rfl) mw_310 dX3_weight_1 (sd_getR clsX0 (f := 3) (by decide) (fun _ _ _ => rfl) mw_279 dX3_weight_4 (sd_iload_n (i := 1) rfl dX3_weight_7 (sd_bipush (v := 8) (by decide) dX3_weight_8 (sd_imul dX3_weight_10 (sd_iload_n (i := 2) rfl dX3_weight_11 (sd_iadd dX3_weight_12 (sd_iaload dX3_weight_13 (sd_i2l dX3_weight_14 (sd_lstore_n (i := 3) rfl (by decide) dX3_weight_15 (sd_aload_n (i := 0) rfl dX3_weight_16 (sd_getI clsX3 (f := 1) (by decide) (fun _ _ _ => rfl) mw_309 dX3_weight_17 (sd_if_ne (tgt := 38) (by decide) dX3_weight_20 (sd_aload_n (i := 0) rfl dX3_weight_38 (sd_getI clsX3 (f := 1) (by decide) (fun _ _ _ => rfl) mw_309 dX3_weight_39 (sd_iconst (v := 1) (by decide) dX3_weight_42 (sd_icmp_ne (tgt := 53) (by decide) dX3_weight_43 (sd_lconst (v := 0) (by decide) dX3_weight_53 (sd_lret rfl (by decide) (by decide) dX3_weight_54)) (sd_lload_n (i := 3) rfl dX3_weight_46 (sd_bipush (v := 32) (by decide) dX3_weight_47 (sd_lshl dX3_weight_49 (sd_goto (tgt := 54) (by decide) dX3_weight_50 (sd_lret rfl (by decide) (by decide) dX3_weight_54))))))))) (sd_lload_n (i := 3) rfl dX3_weight_23 (sd_bipush (v := 24) (by decide) dX3_weight_24 (sd_lshl dX3_weight_26 (sd_iload_n (i := 1) rfl dX3_weight_27 (sd_i2l dX3_weight_28 (sd_iconst (v := 3) (by decide) dX3_weight_29 (sd_bipush (v := 7) (by decide) dX3_weight_30 (sd_iload_n (i := 2) rfl dX3_weight_32 (sd_isub dX3_weight_33 (sd_imul dX3_weight_34 (sd_lshl dX3_weight_35 (sd_lor dX3_weight_36 (sd_lret rfl (by decide) (by decide) dX3_weight_37)))))))))))))))))))))))))) : Sd l E YX3_weight (d + 1) 0 0 Q 0 0 0 (bX3_weight_0 l E d Q)) ls st h hB
theorem eX3_weight {l : Launch} {E : Ev} {d : Nat} {Q : Option Value → Hp → Prop} {h : Hp} {a0 : Nat} {x1 : Int32} {x2 : Int32} (hk : Go l E YX3_weight d 0 0 Q 0 0 0 [some (.ref a0), some (.int x1), some (.int x2), none, none] [] h) : GoM l E YX3_weight d 0 0 [.ref a0, .int x1, .int x2] h Q := GoM.of (by decide +kernel) rfl (by simp [entA, YX3_weight]) hk
theorem dX3_spread_0 : decode cX3_spread 0 = .ok (.iload_n 1, 1) := by decide +kernel
theorem dX3_spread_1 : decode cX3_spread 1 = .ok (.sipush 256, 3) := by decide +kernel
theorem dX3_spread_4 : decode cX3_spread 4 = .ok (.imul, 1) := by decide +kernel
theorem dX3_spread_5 : decode cX3_spread 5 = .ok (.istore 5, 2) := by decide +kernel
theorem dX3_spread_7 : decode cX3_spread 7 = .ok (.iload 5, 2) := by decide +kernel
theorem dX3_spread_9 : decode cX3_spread 9 = .ok (.sipush 256, 3) := by decide +kernel
theorem dX3_spread_12 : decode cX3_spread 12 = .ok (.iadd, 1) := by decide +kernel
theorem dX3_spread_13 : decode cX3_spread 13 = .ok (.istore 6, 2) := by decide +kernel
theorem dX3_spread_15 : decode cX3_spread 15 = .ok (.iload_n 2, 1) := by decide +kernel
theorem dX3_spread_16 : decode cX3_spread 16 = .ok (.aload_n 0, 1) := by decide +kernel
theorem dX3_spread_17 : decode cX3_spread 17 = .ok (.getfield 63, 3) := by decide +kernel
theorem dX3_spread_20 : decode cX3_spread 20 = .ok (.iconst (-1), 1) := by decide +kernel
theorem dX3_spread_21 : decode cX3_spread 21 = .ok (.ixor, 1) := by decide +kernel
theorem dX3_spread_22 : decode cX3_spread 22 = .ok (.sipush 255, 3) := by decide +kernel
theorem dX3_spread_25 : decode cX3_spread 25 = .ok (.iand, 1) := by decide +kernel
theorem dX3_spread_26 : decode cX3_spread 26 = .ok (.ior, 1) := by decide +kernel
theorem dX3_spread_27 : decode cX3_spread 27 = .ok (.istore 7, 2) := by decide +kernel
theorem dX3_spread_29 : decode cX3_spread 29 = .ok (.iconst 0, 1) := by decide +kernel
theorem dX3_spread_30 : decode cX3_spread 30 = .ok (.istore 8, 2) := by decide +kernel
theorem dX3_spread_32 : decode cX3_spread 32 = .ok (.iload 8, 2) := by decide +kernel
theorem dX3_spread_34 : decode cX3_spread 34 = .ok (.aload_n 0, 1) := by decide +kernel
theorem dX3_spread_35 : decode cX3_spread 35 = .ok (.getfield 63, 3) := by decide +kernel
theorem dX3_spread_38 : decode cX3_spread 38 = .ok (.if_icmp .gt 72, 3) := by decide +kernel
theorem dX3_spread_41 : decode cX3_spread 41 = .ok (.aload_n 0, 1) := by decide +kernel
theorem dX3_spread_42 : decode cX3_spread 42 = .ok (.getfield 9, 3) := by decide +kernel
theorem dX3_spread_45 : decode cX3_spread 45 = .ok (.iload 5, 2) := by decide +kernel
theorem dX3_spread_47 : decode cX3_spread 47 = .ok (.iload 8, 2) := by decide +kernel
theorem dX3_spread_49 : decode cX3_spread 49 = .ok (.iadd, 1) := by decide +kernel
theorem dX3_spread_50 : decode cX3_spread 50 = .ok (.laload, 1) := by decide +kernel
theorem dX3_spread_51 : decode cX3_spread 51 = .ok (.lstore 9, 2) := by decide +kernel
theorem dX3_spread_53 : decode cX3_spread 53 = .ok (.lload 9, 2) := by decide +kernel
theorem dX3_spread_55 : decode cX3_spread 55 = .ok (.ldc2_w 30, 3) := by decide +kernel
theorem dX3_spread_58 : decode cX3_spread 58 = .ok (.lcmp, 1) := by decide +kernel
theorem dX3_spread_59 : decode cX3_spread 59 = .ok (.ifCond .ge 34, 3) := by decide +kernel
theorem dX3_spread_62 : decode cX3_spread 62 = .ok (.iload 6, 2) := by decide +kernel
theorem dX3_spread_64 : decode cX3_spread 64 = .ok (.iload 8, 2) := by decide +kernel
theorem dX3_spread_66 : decode cX3_spread 66 = .ok (.iload_n 2, 1) := by decide +kernel
theorem dX3_spread_67 : decode cX3_spread 67 = .ok (.ior, 1) := by decide +kernel
theorem dX3_spread_68 : decode cX3_spread 68 = .ok (.iadd, 1) := by decide +kernel
theorem dX3_spread_69 : decode cX3_spread 69 = .ok (.istore 11, 2) := by decide +kernel
theorem dX3_spread_71 : decode cX3_spread 71 = .ok (.aload_n 0, 1) := by decide +kernel
theorem dX3_spread_72 : decode cX3_spread 72 = .ok (.getfield 9, 3) := by decide +kernel
theorem dX3_spread_75 : decode cX3_spread 75 = .ok (.iload 11, 2) := by decide +kernel
theorem dX3_spread_77 : decode cX3_spread 77 = .ok (.aload_n 0, 1) := by decide +kernel
theorem dX3_spread_78 : decode cX3_spread 78 = .ok (.aload_n 0, 1) := by decide +kernel
theorem dX3_spread_79 : decode cX3_spread 79 = .ok (.getfield 9, 3) := by decide +kernel
theorem dX3_spread_82 : decode cX3_spread 82 = .ok (.iload 11, 2) := by decide +kernel
theorem dX3_spread_84 : decode cX3_spread 84 = .ok (.laload, 1) := by decide +kernel
theorem dX3_spread_85 : decode cX3_spread 85 = .ok (.lload 9, 2) := by decide +kernel
theorem dX3_spread_87 : decode cX3_spread 87 = .ok (.lload_n 3, 1) := by decide +kernel
theorem dX3_spread_88 : decode cX3_spread 88 = .ok (.ladd, 1) := by decide +kernel
theorem dX3_spread_89 : decode cX3_spread 89 = .ok (.invokevirtual 120, 3) := by decide +kernel
theorem dX3_spread_92 : decode cX3_spread 92 = .ok (.lastore, 1) := by decide +kernel
theorem dX3_spread_93 : decode cX3_spread 93 = .ok (.iload 8, 2) := by decide +kernel
theorem dX3_spread_95 : decode cX3_spread 95 = .ok (.iload 7, 2) := by decide +kernel
theorem dX3_spread_97 : decode cX3_spread 97 = .ok (.ior, 1) := by decide +kernel
theorem dX3_spread_98 : decode cX3_spread 98 = .ok (.iconst 1, 1) := by decide +kernel
theorem dX3_spread_99 : decode cX3_spread 99 = .ok (.iadd, 1) := by decide +kernel
theorem dX3_spread_100 : decode cX3_spread 100 = .ok (.iload 7, 2) := by decide +kernel
theorem dX3_spread_102 : decode cX3_spread 102 = .ok (.iconst (-1), 1) := by decide +kernel
theorem dX3_spread_103 : decode cX3_spread 103 = .ok (.ixor, 1) := by decide +kernel
theorem dX3_spread_104 : decode cX3_spread 104 = .ok (.iand, 1) := by decide +kernel
theorem dX3_spread_105 : decode cX3_spread 105 = .ok (.istore 8, 2) := by decide +kernel
theorem dX3_spread_107 : decode cX3_spread 107 = .ok (.goto (-75), 3) := by decide +kernel
theorem dX3_spread_110 : decode cX3_spread 110 = .ok (.return_, 1) := by decide +kernel
def bX3_spread_0 (l : Launch) (E : Ev) (d : Nat) (Q : Option Value → Hp → Prop) : Kt := k_iload 1 (k_push (.int 256) (k_imul (k_istore 5 (k_iload 5 (k_push (.int 256) (k_iadd (k_istore 6 (k_iload 2 (k_aload 0 (k_getI 3 10 4 (k_push (.int (-1)) (k_ixor (k_push (.int 255) (k_iand (k_ior (k_istore 7 (k_push (.int 0) (k_istore 8 (Go l E YX3_spread (d + 1) 0 0 Q 0 0 32)))))))))))))))))))
set_option maxRecDepth 100000 in
set_option maxHeartbeats 4000000 in
theorem gX3_spread_0 {l : Launch} {E : Ev} {d : Nat} {Q : Option Value → Hp → Prop} {ls : Lv} {st : List Value} {h : Hp} (hB : bX3_spread_0 l E d Q ls st h) : Go l E YX3_spread (d + 1) 0 0 Q 0 0 0 ls st h :=
  (sd_iload_n (i := 1) rfl dX3_spread_0 (sd_sipush (v := 256) (by decide) dX3_spread_1 (sd_imul dX3_spread_4 (sd_istore (i := 5) (by decide) dX3_spread_5 (sd_iload (n := 5) dX3_spread_7 (sd_sipush (v := 256) (by decide) dX3_spread_9 (sd_iadd dX3_spread_12 (sd_istore (i := 6) (by decide) dX3_spread_13 (sd_iload_n (i := 2) rfl dX3_spread_15 (sd_aload_n (i := 0) rfl dX3_spread_16 (sd_getI clsX3 (f := 4) (by decide) (fun _ _ _ => rfl) mw_312 dX3_spread_17 (sd_iconst (v := (-1)) (by decide) dX3_spread_20 (sd_ixor dX3_spread_21 (sd_sipush (v := 255) (by decide) dX3_spread_22 (sd_iand dX3_spread_25 (sd_ior dX3_spread_26 (sd_istore (i := 7) (by decide) dX3_spread_27 (sd_iconst (v := 0) (by decide) dX3_spread_29 (sd_istore (i := 8) (by decide) dX3_spread_30 (Sd.go))))))))))))))))))) : Sd l E YX3_spread (d + 1) 0 0 Q 0 0 0 (bX3_spread_0 l E d Q)) ls st h hB
def bX3_spread_32 (l : Launch) (E : Ev) (d : Nat) (Q : Option Value → Hp → Prop) : Kt := k_iload 8 (k_aload 0 (k_getI 3 10 4 (k_icmp_gt (k_vret Q) (k_aload 0 (k_getR 3 10 0 (k_iload 5 (k_iload 8 (k_iadd (k_laload (k_lstore 9 (k_lload 9 (k_push (.long 1152921504606846976) (k_lcmp (k_if_ge (Go l E YX3_spread (d + 1) 0 0 Q 0 0 93) (k_iload 6 (k_iload 8 (k_iload 2 (k_ior (k_iadd (k_istore 11 (k_aload 0 (k_getR 3 10 0 (k_iload 11 (k_aload 0 (k_aload 0 (k_getR 3 10 0 (k_iload 11 (k_laload (k_lload 9 (k_lload 3 (k_ladd (k_callV l E 3 10 YX3_better d 0 0 2 (k_lastore (Go l E YX3_spread (d + 1) 0 0 Q 0 0 93))))))))))))))))))))))))))))))))))
set_option maxRecDepth 100000 in
set_option maxHeartbeats 4000000 in
theorem gX3_spread_32 {l : Launch} {E : Ev} {d : Nat} {Q : Option Value → Hp → Prop} {ls : Lv} {st : List Value} {h : Hp} (hB : bX3_spread_32 l E d Q ls st h) : Go l E YX3_spread (d + 1) 0 0 Q 0 0 32 ls st h :=
  (sd_iload (n := 8) dX3_spread_32 (sd_aload_n (i := 0) rfl dX3_spread_34 (sd_getI clsX3 (f := 4) (by decide) (fun _ _ _ => rfl) mw_312 dX3_spread_35 (sd_icmp_gt (tgt := 110) (by decide) dX3_spread_38 (sd_vret rfl (by decide) (by decide) dX3_spread_110) (sd_aload_n (i := 0) rfl dX3_spread_41 (sd_getR clsX3 (f := 0) (by decide) (fun _ _ _ => rfl) mw_308 dX3_spread_42 (sd_iload (n := 5) dX3_spread_45 (sd_iload (n := 8) dX3_spread_47 (sd_iadd dX3_spread_49 (sd_laload dX3_spread_50 (sd_lstore (i := 9) (by decide) dX3_spread_51 (sd_lload (n := 9) dX3_spread_53 (sd_ldc2 (v := 1152921504606846976) mw_809 dX3_spread_55 (sd_lcmp dX3_spread_58 (sd_if_ge (tgt := 93) (by decide) dX3_spread_59 (Sd.go) (sd_iload (n := 6) dX3_spread_62 (sd_iload (n := 8) dX3_spread_64 (sd_iload_n (i := 2) rfl dX3_spread_66 (sd_ior dX3_spread_67 (sd_iadd dX3_spread_68 (sd_istore (i := 11) (by decide) dX3_spread_69 (sd_aload_n (i := 0) rfl dX3_spread_71 (sd_getR clsX3 (f := 0) (by decide) (fun _ _ _ => rfl) mw_308 dX3_spread_72 (sd_iload (n := 11) dX3_spread_75 (sd_aload_n (i := 0) rfl dX3_spread_77 (sd_aload_n (i := 0) rfl dX3_spread_78 (sd_getR clsX3 (f := 0) (by decide) (fun _ _ _ => rfl) mw_308 dX3_spread_79 (sd_iload (n := 11) dX3_spread_82 (sd_laload dX3_spread_84 (sd_lload (n := 9) dX3_spread_85 (sd_lload_n (i := 3) rfl dX3_spread_87 (sd_ladd dX3_spread_88 (sd_callV (Y' := YX3_better) (mc' := 0) (ms' := 0) (n := 2) clsX3.1 mw_841 mw_843 mw_24 mw_104 mw_844 rfl (okmX3_better) (by decide) (Nat.le_refl _) (by decide) (by decide) dX3_spread_89 (sd_lastore dX3_spread_92 (Sd.go)))))))))))))))))))))))))))))))))) : Sd l E YX3_spread (d + 1) 0 0 Q 0 0 32 (bX3_spread_32 l E d Q)) ls st h hB
def bX3_spread_93 (l : Launch) (E : Ev) (d : Nat) (Q : Option Value → Hp → Prop) : Kt := k_iload 8 (k_iload 7 (k_ior (k_push (.int 1) (k_iadd (k_iload 7 (k_push (.int (-1)) (k_ixor (k_iand (k_istore 8 (Go l E YX3_spread (d + 1) 0 0 Q 0 0 32))))))))))
set_option maxRecDepth 100000 in
set_option maxHeartbeats 4000000 in
theorem gX3_spread_93 {l : Launch} {E : Ev} {d : Nat} {Q : Option Value → Hp → Prop} {ls : Lv} {st : List Value} {h : Hp} (hB : bX3_spread_93 l E d Q ls st h) : Go l E YX3_spread (d + 1) 0 0 Q 0 0 93 ls st h :=
  (sd_iload (n := 8) dX3_spread_93 (sd_iload (n := 7) dX3_spread_95 (sd_ior dX3_spread_97 (sd_iconst (v := 1) (by decide) dX3_spread_98 (sd_iadd dX3_spread_99 (sd_iload (n := 7) dX3_spread_100 (sd_iconst (v := (-1)) (by decide) dX3_spread_102 (sd_ixor dX3_spread_103 (sd_iand dX3_spread_104 (sd_istore (i := 8) (by decide) dX3_spread_105 (sd_goto (tgt := 32) (by decide) dX3_spread_107 (Sd.go))))))))))) : Sd l E YX3_spread (d + 1) 0 0 Q 0 0 93 (bX3_spread_93 l E d Q)) ls st h hB
theorem eX3_spread {l : Launch} {E : Ev} {d : Nat} {Q : Option Value → Hp → Prop} {h : Hp} {a0 : Nat} {x1 : Int32} {x2 : Int32} {x3 : Int64} (hk : Go l E YX3_spread d 0 0 Q 0 0 0 [some (.ref a0), some (.int x1), some (.int x2), some (.long x3), none, none, none, none, none, none, none, none] [] h) : GoM l E YX3_spread d 0 0 [.ref a0, .int x1, .int x2, .long x3] h Q := GoM.of (by decide +kernel) rfl (by simp [entA, YX3_spread]) hk
theorem dX3_better_0 : decode cX3_better 0 = .ok (.aload_n 0, 1) := by decide +kernel
theorem dX3_better_1 : decode cX3_better 1 = .ok (.getfield 52, 3) := by decide +kernel
theorem dX3_better_4 : decode cX3_better 4 = .ok (.ifCond .ne 9, 3) := by decide +kernel
theorem dX3_better_7 : decode cX3_better 7 = .ok (.lload_n 1, 1) := by decide +kernel
theorem dX3_better_8 : decode cX3_better 8 = .ok (.lload_n 3, 1) := by decide +kernel
theorem dX3_better_9 : decode cX3_better 9 = .ok (.invokestatic 124, 3) := by decide +kernel
theorem dX3_better_12 : decode cX3_better 12 = .ok (.lreturn, 1) := by decide +kernel
theorem dX3_better_13 : decode cX3_better 13 = .ok (.lload_n 1, 1) := by decide +kernel
theorem dX3_better_14 : decode cX3_better 14 = .ok (.bipush 32, 2) := by decide +kernel
theorem dX3_better_16 : decode cX3_better 16 = .ok (.lshr, 1) := by decide +kernel
theorem dX3_better_17 : decode cX3_better 17 = .ok (.lload_n 3, 1) := by decide +kernel
theorem dX3_better_18 : decode cX3_better 18 = .ok (.bipush 32, 2) := by decide +kernel
theorem dX3_better_20 : decode cX3_better 20 = .ok (.lshr, 1) := by decide +kernel
theorem dX3_better_21 : decode cX3_better 21 = .ok (.invokestatic 129, 3) := by decide +kernel
theorem dX3_better_24 : decode cX3_better 24 = .ok (.i2l, 1) := by decide +kernel
theorem dX3_better_25 : decode cX3_better 25 = .ok (.lstore 5, 2) := by decide +kernel
theorem dX3_better_27 : decode cX3_better 27 = .ok (.lload 5, 2) := by decide +kernel
theorem dX3_better_29 : decode cX3_better 29 = .ok (.lconst 0, 1) := by decide +kernel
theorem dX3_better_30 : decode cX3_better 30 = .ok (.lcmp, 1) := by decide +kernel
theorem dX3_better_31 : decode cX3_better 31 = .ok (.ifCond .ne 13, 3) := by decide +kernel
theorem dX3_better_34 : decode cX3_better 34 = .ok (.lload_n 1, 1) := by decide +kernel
theorem dX3_better_35 : decode cX3_better 35 = .ok (.lload_n 3, 1) := by decide +kernel
theorem dX3_better_36 : decode cX3_better 36 = .ok (.ldc2_w 44, 3) := by decide +kernel
theorem dX3_better_39 : decode cX3_better 39 = .ok (.land, 1) := by decide +kernel
theorem dX3_better_40 : decode cX3_better 40 = .ok (.ladd, 1) := by decide +kernel
theorem dX3_better_41 : decode cX3_better 41 = .ok (.goto 15, 3) := by decide +kernel
theorem dX3_better_44 : decode cX3_better 44 = .ok (.lload 5, 2) := by decide +kernel
theorem dX3_better_46 : decode cX3_better 46 = .ok (.lconst 0, 1) := by decide +kernel
theorem dX3_better_47 : decode cX3_better 47 = .ok (.lcmp, 1) := by decide +kernel
theorem dX3_better_48 : decode cX3_better 48 = .ok (.ifCond .ge 7, 3) := by decide +kernel
theorem dX3_better_51 : decode cX3_better 51 = .ok (.lload_n 1, 1) := by decide +kernel
theorem dX3_better_52 : decode cX3_better 52 = .ok (.goto 4, 3) := by decide +kernel
theorem dX3_better_55 : decode cX3_better 55 = .ok (.lload_n 3, 1) := by decide +kernel
theorem dX3_better_56 : decode cX3_better 56 = .ok (.lreturn, 1) := by decide +kernel
def bX3_better_0 (l : Launch) (E : Ev) (d : Nat) (Q : Option Value → Hp → Prop) : Kt := k_aload 0 (k_getI 3 10 1 (k_if_ne (k_lload 1 (k_push (.int 32) (k_lshr (k_lload 3 (k_push (.int 32) (k_lshr (k_callS l E YJ13_compare_74951 d 0 0 2 (k_i2l (k_lstore 5 (k_lload 5 (k_push (.long 0) (k_lcmp (k_if_ne (k_lload 5 (k_push (.long 0) (k_lcmp (k_if_ge (k_lload 3 (k_lret Q)) (k_lload 1 (k_lret Q)))))) (k_lload 1 (k_lload 3 (k_push (.long 4294967295) (k_land (k_ladd (k_lret Q))))))))))))))))))) (k_lload 1 (k_lload 3 (k_mminl (k_lret Q))))))
set_option maxRecDepth 100000 in
set_option maxHeartbeats 4000000 in
theorem gX3_better_0 {l : Launch} {E : Ev} {d : Nat} {Q : Option Value → Hp → Prop} {ls : Lv} {st : List Value} {h : Hp} (hB : bX3_better_0 l E d Q ls st h) : Go l E YX3_better (d + 1) 0 0 Q 0 0 0 ls st h :=
  (sd_aload_n (i := 0) rfl dX3_better_0 (sd_getI clsX3 (f := 1) (by decide) (fun _ _ _ => rfl) mw_309 dX3_better_1 (sd_if_ne (tgt := 13) (by decide) dX3_better_4 (sd_lload_n (i := 1) rfl dX3_better_13 (sd_bipush (v := 32) (by decide) dX3_better_14 (sd_lshr dX3_better_16 (sd_lload_n (i := 3) rfl dX3_better_17 (sd_bipush (v := 32) (by decide) dX3_better_18 (sd_lshr dX3_better_20 (sd_callS (Y' := YJ13_compare_74951) (mc' := 0) (ms' := 0) (n := 2) mw_848 mw_849 mw_118 mw_850 (okmJ13_compare_74951) (by decide) (Nat.le_refl _) (by decide) (by decide) dX3_better_21 (sd_i2l dX3_better_24 (sd_lstore (i := 5) (by decide) dX3_better_25 (sd_lload (n := 5) dX3_better_27 (sd_lconst (v := 0) (by decide) dX3_better_29 (sd_lcmp dX3_better_30 (sd_if_ne (tgt := 44) (by decide) dX3_better_31 (sd_lload (n := 5) dX3_better_44 (sd_lconst (v := 0) (by decide) dX3_better_46 (sd_lcmp dX3_better_47 (sd_if_ge (tgt := 55) (by decide) dX3_better_48 (sd_lload_n (i := 3) rfl dX3_better_55 (sd_lret rfl (by decide) (by decide) dX3_better_56)) (sd_lload_n (i := 1) rfl dX3_better_51 (sd_goto (tgt := 56) (by decide) dX3_better_52 (sd_lret rfl (by decide) (by decide) dX3_better_56))))))) (sd_lload_n (i := 1) rfl dX3_better_34 (sd_lload_n (i := 3) rfl dX3_better_35 (sd_ldc2 (v := 4294967295) mw_851 dX3_better_36 (sd_land dX3_better_39 (sd_ladd dX3_better_40 (sd_goto (tgt := 56) (by decide) dX3_better_41 (sd_lret rfl (by decide) (by decide) dX3_better_56)))))))))))))))))))) (sd_lload_n (i := 1) rfl dX3_better_7 (sd_lload_n (i := 3) rfl dX3_better_8 (sd_mminl mw_845 mw_846 mw_109 mw_847 (by omega) (by decide) (by decide) dX3_better_9 (sd_lret rfl (by decide) (by decide) dX3_better_12)))))) : Sd l E YX3_better (d + 1) 0 0 Q 0 0 0 (bX3_better_0 l E d Q)) ls st h hB
theorem eX3_better {l : Launch} {E : Ev} {d : Nat} {Q : Option Value → Hp → Prop} {h : Hp} {a0 : Nat} {x1 : Int64} {x2 : Int64} (hk : Go l E YX3_better d 0 0 Q 0 0 0 [some (.ref a0), some (.long x1), none, some (.long x2), none, none, none] [] h) : GoM l E YX3_better d 0 0 [.ref a0, .long x1, .long x2] h Q := GoM.of (by decide +kernel) rfl (by simp [entA, YX3_better]) hk
theorem dX3_pick_0 : decode cX3_pick 0 = .ok (.aload_n 0, 1) := by decide +kernel
theorem dX3_pick_1 : decode cX3_pick 1 = .ok (.aload_n 1, 1) := by decide +kernel
theorem dX3_pick_2 : decode cX3_pick 2 = .ok (.iconst 1, 1) := by decide +kernel
theorem dX3_pick_3 : decode cX3_pick 3 = .ok (.invokevirtual 36, 3) := by decide +kernel
theorem dX3_pick_6 : decode cX3_pick 6 = .ok (.aload_n 0, 1) := by decide +kernel
theorem dX3_pick_7 : decode cX3_pick 7 = .ok (.iload_n 3, 1) := by decide +kernel
theorem dX3_pick_8 : decode cX3_pick 8 = .ok (.putfield 22, 3) := by decide +kernel
theorem dX3_pick_11 : decode cX3_pick 11 = .ok (.aload_n 0, 1) := by decide +kernel
theorem dX3_pick_12 : decode cX3_pick 12 = .ok (.getfield 19, 3) := by decide +kernel
theorem dX3_pick_15 : decode cX3_pick 15 = .ok (.iconst (-1), 1) := by decide +kernel
theorem dX3_pick_16 : decode cX3_pick 16 = .ok (.invokestatic 66, 3) := by decide +kernel
theorem dX3_pick_19 : decode cX3_pick 19 = .ok (.aload_n 0, 1) := by decide +kernel
theorem dX3_pick_20 : decode cX3_pick 20 = .ok (.iload_n 2, 1) := by decide +kernel
theorem dX3_pick_21 : decode cX3_pick 21 = .ok (.invokevirtual 40, 3) := by decide +kernel
theorem dX3_pick_24 : decode cX3_pick 24 = .ok (.lstore 4, 2) := by decide +kernel
theorem dX3_pick_26 : decode cX3_pick 26 = .ok (.lload 4, 2) := by decide +kernel
theorem dX3_pick_28 : decode cX3_pick 28 = .ok (.invokestatic 32, 3) := by decide +kernel
theorem dX3_pick_31 : decode cX3_pick 31 = .ok (.ifCond .ne 15, 3) := by decide +kernel
theorem dX3_pick_34 : decode cX3_pick 34 = .ok (.iload_n 3, 1) := by decide +kernel
theorem dX3_pick_35 : decode cX3_pick 35 = .ok (.i2l, 1) := by decide +kernel
theorem dX3_pick_36 : decode cX3_pick 36 = .ok (.lload 4, 2) := by decide +kernel
theorem dX3_pick_38 : decode cX3_pick 38 = .ok (.ldc2_w 44, 3) := by decide +kernel
theorem dX3_pick_41 : decode cX3_pick 41 = .ok (.land, 1) := by decide +kernel
theorem dX3_pick_42 : decode cX3_pick 42 = .ok (.lcmp, 1) := by decide +kernel
theorem dX3_pick_43 : decode cX3_pick 43 = .ok (.ifCond .lt 4, 3) := by decide +kernel
theorem dX3_pick_46 : decode cX3_pick 46 = .ok (.return_, 1) := by decide +kernel
theorem dX3_pick_47 : decode cX3_pick 47 = .ok (.lload 4, 2) := by decide +kernel
theorem dX3_pick_49 : decode cX3_pick 49 = .ok (.bipush 32, 2) := by decide +kernel
theorem dX3_pick_51 : decode cX3_pick 51 = .ok (.lshr, 1) := by decide +kernel
theorem dX3_pick_52 : decode cX3_pick 52 = .ok (.lstore 6, 2) := by decide +kernel
theorem dX3_pick_54 : decode cX3_pick 54 = .ok (.iload_n 3, 1) := by decide +kernel
theorem dX3_pick_55 : decode cX3_pick 55 = .ok (.i2l, 1) := by decide +kernel
theorem dX3_pick_56 : decode cX3_pick 56 = .ok (.lstore 8, 2) := by decide +kernel
theorem dX3_pick_58 : decode cX3_pick 58 = .ok (.iconst 0, 1) := by decide +kernel
theorem dX3_pick_59 : decode cX3_pick 59 = .ok (.istore 10, 2) := by decide +kernel
theorem dX3_pick_61 : decode cX3_pick 61 = .ok (.iload 10, 2) := by decide +kernel
theorem dX3_pick_63 : decode cX3_pick 63 = .ok (.aload_n 0, 1) := by decide +kernel
theorem dX3_pick_64 : decode cX3_pick 64 = .ok (.getfield 26, 3) := by decide +kernel
theorem dX3_pick_67 : decode cX3_pick 67 = .ok (.getfield 55, 3) := by decide +kernel
theorem dX3_pick_70 : decode cX3_pick 70 = .ok (.if_icmp .ge 132, 3) := by decide +kernel
theorem dX3_pick_73 : decode cX3_pick 73 = .ok (.aload_n 0, 1) := by decide +kernel
theorem dX3_pick_74 : decode cX3_pick 74 = .ok (.dup, 1) := by decide +kernel
theorem dX3_pick_75 : decode cX3_pick 75 = .ok (.getfield 63, 3) := by decide +kernel
theorem dX3_pick_78 : decode cX3_pick 78 = .ok (.iconst 1, 1) := by decide +kernel
theorem dX3_pick_79 : decode cX3_pick 79 = .ok (.iload 10, 2) := by decide +kernel
theorem dX3_pick_81 : decode cX3_pick 81 = .ok (.ishl, 1) := by decide +kernel
theorem dX3_pick_82 : decode cX3_pick 82 = .ok (.iconst (-1), 1) := by decide +kernel
theorem dX3_pick_83 : decode cX3_pick 83 = .ok (.ixor, 1) := by decide +kernel
theorem dX3_pick_84 : decode cX3_pick 84 = .ok (.iand, 1) := by decide +kernel
theorem dX3_pick_85 : decode cX3_pick 85 = .ok (.putfield 63, 3) := by decide +kernel
theorem dX3_pick_88 : decode cX3_pick 88 = .ok (.iconst 0, 1) := by decide +kernel
theorem dX3_pick_89 : decode cX3_pick 89 = .ok (.istore 11, 2) := by decide +kernel
theorem dX3_pick_91 : decode cX3_pick 91 = .ok (.iload 11, 2) := by decide +kernel
theorem dX3_pick_93 : decode cX3_pick 93 = .ok (.aload_n 0, 1) := by decide +kernel
theorem dX3_pick_94 : decode cX3_pick 94 = .ok (.getfield 26, 3) := by decide +kernel
theorem dX3_pick_97 : decode cX3_pick 97 = .ok (.getfield 78, 3) := by decide +kernel
theorem dX3_pick_100 : decode cX3_pick 100 = .ok (.if_icmp .ge 96, 3) := by decide +kernel
theorem dX3_pick_103 : decode cX3_pick 103 = .ok (.aload_n 0, 1) := by decide +kernel
theorem dX3_pick_104 : decode cX3_pick 104 = .ok (.getfield 19, 3) := by decide +kernel
theorem dX3_pick_107 : decode cX3_pick 107 = .ok (.iload 10, 2) := by decide +kernel
theorem dX3_pick_109 : decode cX3_pick 109 = .ok (.iaload, 1) := by decide +kernel
theorem dX3_pick_110 : decode cX3_pick 110 = .ok (.iconst (-1), 1) := by decide +kernel
theorem dX3_pick_111 : decode cX3_pick 111 = .ok (.if_icmp .ne 85, 3) := by decide +kernel
theorem dX3_pick_114 : decode cX3_pick 114 = .ok (.aload_n 0, 1) := by decide +kernel
theorem dX3_pick_115 : decode cX3_pick 115 = .ok (.iload 11, 2) := by decide +kernel
theorem dX3_pick_117 : decode cX3_pick 117 = .ok (.iload 10, 2) := by decide +kernel
theorem dX3_pick_119 : decode cX3_pick 119 = .ok (.iload_n 2, 1) := by decide +kernel
theorem dX3_pick_120 : decode cX3_pick 120 = .ok (.lload 6, 2) := by decide +kernel
theorem dX3_pick_122 : decode cX3_pick 122 = .ok (.invokevirtual 135, 3) := by decide +kernel
theorem dX3_pick_125 : decode cX3_pick 125 = .ok (.lstore 12, 2) := by decide +kernel
theorem dX3_pick_127 : decode cX3_pick 127 = .ok (.lload 8, 2) := by decide +kernel
theorem dX3_pick_129 : decode cX3_pick 129 = .ok (.lload 12, 2) := by decide +kernel
theorem dX3_pick_131 : decode cX3_pick 131 = .ok (.lcmp, 1) := by decide +kernel
theorem dX3_pick_132 : decode cX3_pick 132 = .ok (.ifCond .ge 51, 3) := by decide +kernel
theorem dX3_pick_135 : decode cX3_pick 135 = .ok (.aload_n 0, 1) := by decide +kernel
theorem dX3_pick_136 : decode cX3_pick 136 = .ok (.getfield 19, 3) := by decide +kernel
theorem dX3_pick_139 : decode cX3_pick 139 = .ok (.iload 10, 2) := by decide +kernel
theorem dX3_pick_141 : decode cX3_pick 141 = .ok (.iload 11, 2) := by decide +kernel
theorem dX3_pick_143 : decode cX3_pick 143 = .ok (.iastore, 1) := by decide +kernel
theorem dX3_pick_144 : decode cX3_pick 144 = .ok (.aload_n 0, 1) := by decide +kernel
theorem dX3_pick_145 : decode cX3_pick 145 = .ok (.getfield 15, 3) := by decide +kernel
theorem dX3_pick_148 : decode cX3_pick 148 = .ok (.iload 11, 2) := by decide +kernel
theorem dX3_pick_150 : decode cX3_pick 150 = .ok (.dup2, 1) := by decide +kernel
theorem dX3_pick_151 : decode cX3_pick 151 = .ok (.iaload, 1) := by decide +kernel
theorem dX3_pick_152 : decode cX3_pick 152 = .ok (.iconst 1, 1) := by decide +kernel
theorem dX3_pick_153 : decode cX3_pick 153 = .ok (.iload 10, 2) := by decide +kernel
theorem dX3_pick_155 : decode cX3_pick 155 = .ok (.ishl, 1) := by decide +kernel
theorem dX3_pick_156 : decode cX3_pick 156 = .ok (.ior, 1) := by decide +kernel
theorem dX3_pick_157 : decode cX3_pick 157 = .ok (.iastore, 1) := by decide +kernel
theorem dX3_pick_158 : decode cX3_pick 158 = .ok (.lload 6, 2) := by decide +kernel
theorem dX3_pick_160 : decode cX3_pick 160 = .ok (.aload_n 0, 1) := by decide +kernel
theorem dX3_pick_161 : decode cX3_pick 161 = .ok (.getfield 26, 3) := by decide +kernel
theorem dX3_pick_164 : decode cX3_pick 164 = .ok (.getfield 117, 3) := by decide +kernel
theorem dX3_pick_167 : decode cX3_pick 167 = .ok (.iload 11, 2) := by decide +kernel
theorem dX3_pick_169 : decode cX3_pick 169 = .ok (.bipush 8, 2) := by decide +kernel
theorem dX3_pick_171 : decode cX3_pick 171 = .ok (.imul, 1) := by decide +kernel
theorem dX3_pick_172 : decode cX3_pick 172 = .ok (.iload 10, 2) := by decide +kernel
theorem dX3_pick_174 : decode cX3_pick 174 = .ok (.iadd, 1) := by decide +kernel
theorem dX3_pick_175 : decode cX3_pick 175 = .ok (.iaload, 1) := by decide +kernel
theorem dX3_pick_176 : decode cX3_pick 176 = .ok (.i2l, 1) := by decide +kernel
theorem dX3_pick_177 : decode cX3_pick 177 = .ok (.lsub, 1) := by decide +kernel
theorem dX3_pick_178 : decode cX3_pick 178 = .ok (.lstore 6, 2) := by decide +kernel
theorem dX3_pick_180 : decode cX3_pick 180 = .ok (.goto 10, 3) := by decide +kernel
theorem dX3_pick_183 : decode cX3_pick 183 = .ok (.lload 8, 2) := by decide +kernel
theorem dX3_pick_185 : decode cX3_pick 185 = .ok (.lload 12, 2) := by decide +kernel
theorem dX3_pick_187 : decode cX3_pick 187 = .ok (.lsub, 1) := by decide +kernel
theorem dX3_pick_188 : decode cX3_pick 188 = .ok (.lstore 8, 2) := by decide +kernel
theorem dX3_pick_190 : decode cX3_pick 190 = .ok (.iinc 11 1, 3) := by decide +kernel
theorem dX3_pick_193 : decode cX3_pick 193 = .ok (.goto (-102), 3) := by decide +kernel
theorem dX3_pick_196 : decode cX3_pick 196 = .ok (.iinc 10 1, 3) := by decide +kernel
theorem dX3_pick_199 : decode cX3_pick 199 = .ok (.goto (-138), 3) := by decide +kernel
theorem dX3_pick_202 : decode cX3_pick 202 = .ok (.return_, 1) := by decide +kernel
def bX3_pick_0 (l : Launch) (E : Ev) (d : Nat) (Q : Option Value → Hp → Prop) : Kt := k_aload 0 (k_aload 1 (k_push (.int 1) (k_callV l E 3 10 YX3_begin d 0 0 2 (k_aload 0 (k_iload 3 (k_putI 3 10 9 (k_aload 0 (k_getR 3 10 8 (k_push (.int (-1)) (k_callS l E YJ7_fill_53178 d 0 0 2 (k_aload 0 (k_iload 2 (k_callV l E 3 10 YX3_solve d 0 0 1 (k_lstore 4 (k_lload 4 (k_callS l E YX3_isNone d 0 0 1 (k_if_ne (k_vret Q) (k_iload 3 (k_i2l (k_lload 4 (k_push (.long 4294967295) (k_land (k_lcmp (k_if_lt (k_lload 4 (k_push (.int 32) (k_lshr (k_lstore 6 (k_iload 3 (k_i2l (k_lstore 8 (k_push (.int 0) (k_istore 10 (Go l E YX3_pick (d + 1) 0 0 Q 0 0 61)))))))))) (k_vret Q)))))))))))))))))))))))))
set_option maxRecDepth 100000 in
set_option maxHeartbeats 4000000 in
theorem gX3_pick_0 {l : Launch} {E : Ev} {d : Nat} {Q : Option Value → Hp → Prop} {ls : Lv} {st : List Value} {h : Hp} (hB : bX3_pick_0 l E d Q ls st h) : Go l E YX3_pick (d + 1) 0 0 Q 0 0 0 ls st h :=
  (sd_aload_n (i := 0) rfl dX3_pick_0 (sd_aload_n (i := 1) rfl dX3_pick_1 (sd_iconst (v := 1) (by decide) dX3_pick_2 (sd_callV (Y' := YX3_begin) (mc' := 0) (ms' := 0) (n := 2) clsX3.1 mw_794 mw_796 mw_16 mw_104 mw_797 rfl (okmX3_begin) (by decide) (Nat.le_refl _) (by decide) (by decide) dX3_pick_3 (sd_aload_n (i := 0) rfl dX3_pick_6 (sd_iload_n (i := 3) rfl dX3_pick_7 (sd_putI clsX3 (f := 9) (by decide) (fun _ _ _ => rfl) rfl (Or.inl rfl) mw_320 dX3_pick_8 (sd_aload_n (i := 0) rfl dX3_pick_11 (sd_getR clsX3 (f := 8) (by decide) (fun _ _ _ => rfl) mw_318 dX3_pick_12 (sd_iconst (v := (-1)) (by decide) dX3_pick_15 (sd_callS (Y' := YJ7_fill_53178) (mc' := 0) (ms' := 0) (n := 2) mw_798 mw_799 mw_115 mw_800 (okmJ7_fill_53178) (by decide) (Nat.le_refl _) (by decide) (by decide) dX3_pick_16 (sd_aload_n (i := 0) rfl dX3_pick_19 (sd_iload_n (i := 2) rfl dX3_pick_20 (sd_callV (Y' := YX3_solve) (mc' := 0) (ms' := 0) (n := 1) clsX3.1 mw_801 mw_803 mw_17 mw_104 mw_804 rfl (okmX3_solve) (by decide) (Nat.le_refl _) (by decide) (by decide) dX3_pick_21 (sd_lstore (i := 4) (by decide) dX3_pick_24 (sd_lload (n := 4) dX3_pick_26 (sd_callS (Y' := YX3_isNone) (mc' := 0) (ms' := 0) (n := 1) mw_895 mw_896 mw_104 mw_897 (okmX3_isNone) (by decide) (Nat.le_refl _) (by decide) (by decide) dX3_pick_28 (sd_if_ne (tgt := 46) (by decide) dX3_pick_31 (sd_vret rfl (by decide) (by decide) dX3_pick_46) (sd_iload_n (i := 3) rfl dX3_pick_34 (sd_i2l dX3_pick_35 (sd_lload (n := 4) dX3_pick_36 (sd_ldc2 (v := 4294967295) mw_851 dX3_pick_38 (sd_land dX3_pick_41 (sd_lcmp dX3_pick_42 (sd_if_lt (tgt := 47) (by decide) dX3_pick_43 (sd_lload (n := 4) dX3_pick_47 (sd_bipush (v := 32) (by decide) dX3_pick_49 (sd_lshr dX3_pick_51 (sd_lstore (i := 6) (by decide) dX3_pick_52 (sd_iload_n (i := 3) rfl dX3_pick_54 (sd_i2l dX3_pick_55 (sd_lstore (i := 8) (by decide) dX3_pick_56 (sd_iconst (v := 0) (by decide) dX3_pick_58 (sd_istore (i := 10) (by decide) dX3_pick_59 (Sd.go)))))))))) (sd_vret rfl (by decide) (by decide) dX3_pick_46))))))))))))))))))))))))) : Sd l E YX3_pick (d + 1) 0 0 Q 0 0 0 (bX3_pick_0 l E d Q)) ls st h hB
def bX3_pick_61 (l : Launch) (E : Ev) (d : Nat) (Q : Option Value → Hp → Prop) : Kt := k_iload 10 (k_aload 0 (k_getR 3 10 2 (k_getI 0 7 1 (k_icmp_ge (k_vret Q) (k_aload 0 (k_dup (k_getI 3 10 4 (k_push (.int 1) (k_iload 10 (k_ishl (k_push (.int (-1)) (k_ixor (k_iand (k_putI 3 10 4 (k_push (.int 0) (k_istore 11 (Go l E YX3_pick (d + 1) 0 0 Q 0 0 91)))))))))))))))))
set_option maxRecDepth 100000 in
set_option maxHeartbeats 4000000 in
theorem gX3_pick_61 {l : Launch} {E : Ev} {d : Nat} {Q : Option Value → Hp → Prop} {ls : Lv} {st : List Value} {h : Hp} (hB : bX3_pick_61 l E d Q ls st h) : Go l E YX3_pick (d + 1) 0 0 Q 0 0 61 ls st h :=
  (sd_iload (n := 10) dX3_pick_61 (sd_aload_n (i := 0) rfl dX3_pick_63 (sd_getR clsX3 (f := 2) (by decide) (fun _ _ _ => rfl) mw_310 dX3_pick_64 (sd_getI clsX0 (f := 1) (by decide) (fun _ _ _ => rfl) mw_272 dX3_pick_67 (sd_icmp_ge (tgt := 202) (by decide) dX3_pick_70 (sd_vret rfl (by decide) (by decide) dX3_pick_202) (sd_aload_n (i := 0) rfl dX3_pick_73 (sd_dup dX3_pick_74 (sd_getI clsX3 (f := 4) (by decide) (fun _ _ _ => rfl) mw_312 dX3_pick_75 (sd_iconst (v := 1) (by decide) dX3_pick_78 (sd_iload (n := 10) dX3_pick_79 (sd_ishl dX3_pick_81 (sd_iconst (v := (-1)) (by decide) dX3_pick_82 (sd_ixor dX3_pick_83 (sd_iand dX3_pick_84 (sd_putI clsX3 (f := 4) (by decide) (fun _ _ _ => rfl) rfl (Or.inl rfl) mw_312 dX3_pick_85 (sd_iconst (v := 0) (by decide) dX3_pick_88 (sd_istore (i := 11) (by decide) dX3_pick_89 (Sd.go))))))))))))))))) : Sd l E YX3_pick (d + 1) 0 0 Q 0 0 61 (bX3_pick_61 l E d Q)) ls st h hB
def bX3_pick_91 (l : Launch) (E : Ev) (d : Nat) (Q : Option Value → Hp → Prop) : Kt := k_iload 11 (k_aload 0 (k_getR 3 10 2 (k_getI 0 7 0 (k_icmp_ge (k_iinc 10 1 (Go l E YX3_pick (d + 1) 0 0 Q 0 0 61)) (k_aload 0 (k_getR 3 10 8 (k_iload 10 (k_iaload (k_push (.int (-1)) (k_icmp_ne (k_iinc 10 1 (Go l E YX3_pick (d + 1) 0 0 Q 0 0 61)) (k_aload 0 (k_iload 11 (k_iload 10 (k_iload 2 (k_lload 6 (k_callV l E 3 10 YX3_followed d 0 0 4 (k_lstore 12 (k_lload 8 (k_lload 12 (k_lcmp (k_if_ge (k_lload 8 (k_lload 12 (k_lsub (k_lstore 8 (k_iinc 11 1 (Go l E YX3_pick (d + 1) 0 0 Q 0 0 91)))))) (k_aload 0 (k_getR 3 10 8 (k_iload 10 (k_iload 11 (k_iastore (k_aload 0 (k_getR 3 10 5 (k_iload 11 (k_dup2 (k_iaload (k_push (.int 1) (k_iload 10 (k_ishl (k_ior (k_iastore (k_lload 6 (k_aload 0 (k_getR 3 10 2 (k_getR 0 7 3 (k_iload 11 (k_push (.int 8) (k_imul (k_iload 10 (k_iadd (k_iaload (k_i2l (k_lsub (k_lstore 6 (k_iinc 11 1 (Go l E YX3_pick (d + 1) 0 0 Q 0 0 91)))))))))))))))))))))))))))))))))))))))))))))))))))
set_option maxRecDepth 100000 in
set_option maxHeartbeats 4000000 in
theorem gX3_pick_91 {l : Launch} {E : Ev} {d : Nat} {Q : Option Value → Hp → Prop} {ls : Lv} {st : List Value} {h : Hp} (hB : bX3_pick_91 l E d Q ls st h) : Go l E YX3_pick (d + 1) 0 0 Q 0 0 91 ls st h :=
  (sd_iload (n := 11) dX3_pick_91 (sd_aload_n (i := 0) rfl dX3_pick_93 (sd_getR clsX3 (f := 2) (by decide) (fun _ _ _ => rfl) mw_310 dX3_pick_94 (sd_getI clsX0 (f := 0) (by decide) (fun _ _ _ => rfl) mw_269 dX3_pick_97 (sd_icmp_ge (tgt := 196) (by decide) dX3_pick_100 (sd_iinc (i := 10) (v := 1) (by decide) (by decide) dX3_pick_196 (sd_goto (tgt := 61) (by decide) dX3_pick_199 (Sd.go))) (sd_aload_n (i := 0) rfl dX3_pick_103 (sd_getR clsX3 (f := 8) (by decide) (fun _ _ _ => rfl) mw_318 dX3_pick_104 (sd_iload (n := 10) dX3_pick_107 (sd_iaload dX3_pick_109 (sd_iconst (v := (-1)) (by decide) dX3_pick_110 (sd_icmp_ne (tgt := 196) (by decide) dX3_pick_111 (sd_iinc (i := 10) (v := 1) (by decide) (by decide) dX3_pick_196 (sd_goto (tgt := 61) (by decide) dX3_pick_199 (Sd.go))) (sd_aload_n (i := 0) rfl dX3_pick_114 (sd_iload (n := 11) dX3_pick_115 (sd_iload (n := 10) dX3_pick_117 (sd_iload_n (i := 2) rfl dX3_pick_119 (sd_lload (n := 6) dX3_pick_120 (sd_callV (Y' := YX3_followed) (mc' := 0) (ms' := 0) (n := 4) clsX3.1 mw_934 mw_936 mw_35 mw_104 mw_937 rfl (okmX3_followed) (by decide) (Nat.le_refl _) (by decide) (by decide) dX3_pick_122 (sd_lstore (i := 12) (by decide) dX3_pick_125 (sd_lload (n := 8) dX3_pick_127 (sd_lload (n := 12) dX3_pick_129 (sd_lcmp dX3_pick_131 (sd_if_ge (tgt := 183) (by decide) dX3_pick_132 (sd_lload (n := 8) dX3_pick_183 (sd_lload (n := 12) dX3_pick_185 (sd_lsub dX3_pick_187 (sd_lstore (i := 8) (by decide) dX3_pick_188 (sd_iinc (i := 11) (v := 1) (by decide) (by decide) dX3_pick_190 (sd_goto (tgt := 91) (by decide) dX3_pick_193 (Sd.go))))))) (sd_aload_n (i := 0) rfl dX3_pick_135 (sd_getR clsX3 (f := 8) (by decide) (fun _ _ _ => rfl) mw_318 dX3_pick_136 (sd_iload (n := 10) dX3_pick_139 (sd_iload (n := 11) dX3_pick_141 (sd_iastore dX3_pick_143 (sd_aload_n (i := 0) rfl dX3_pick_144 (sd_getR clsX3 (f := 5) (by decide) (fun _ _ _ => rfl) mw_313 dX3_pick_145 (sd_iload (n := 11) dX3_pick_148 (sd_dup2 dX3_pick_150 (sd_iaload dX3_pick_151 (sd_iconst (v := 1) (by decide) dX3_pick_152 (sd_iload (n := 10) dX3_pick_153 (sd_ishl dX3_pick_155 (sd_ior dX3_pick_156 (sd_iastore dX3_pick_157 (sd_lload (n := 6) dX3_pick_158 (sd_aload_n (i := 0) rfl dX3_pick_160 (sd_getR clsX3 (f := 2) (by decide) (fun _ _ _ => rfl) mw_310 dX3_pick_161 (sd_getR clsX0 (f := 3) (by decide) (fun _ _ _ => rfl) mw_279 dX3_pick_164 (sd_iload (n := 11) dX3_pick_167 (sd_bipush (v := 8) (by decide) dX3_pick_169 (sd_imul dX3_pick_171 (sd_iload (n := 10) dX3_pick_172 (sd_iadd dX3_pick_174 (sd_iaload dX3_pick_175 (sd_i2l dX3_pick_176 (sd_lsub dX3_pick_177 (sd_lstore (i := 6) (by decide) dX3_pick_178 (sd_goto (tgt := 190) (by decide) dX3_pick_180 (sd_iinc (i := 11) (v := 1) (by decide) (by decide) dX3_pick_190 (sd_goto (tgt := 91) (by decide) dX3_pick_193 (Sd.go))))))))))))))))))))))))))))))))))))))))))))))))))))) : Sd l E YX3_pick (d + 1) 0 0 Q 0 0 91 (bX3_pick_91 l E d Q)) ls st h hB
theorem eX3_pick {l : Launch} {E : Ev} {d : Nat} {Q : Option Value → Hp → Prop} {h : Hp} {a0 : Nat} {x1 : Nat} {x2 : Int32} {x3 : Int32} (hk : Go l E YX3_pick d 0 0 Q 0 0 0 [some (.ref a0), some (.ref x1), some (.int x2), some (.int x3), none, none, none, none, none, none, none, none, none, none] [] h) : GoM l E YX3_pick d 0 0 [.ref a0, .ref x1, .int x2, .int x3] h Q := GoM.of (by decide +kernel) rfl (by simp [entA, YX3_pick]) hk
theorem dX3_followed_0 : decode cX3_followed 0 = .ok (.aload_n 0, 1) := by decide +kernel
theorem dX3_followed_1 : decode cX3_followed 1 = .ok (.getfield 26, 3) := by decide +kernel
theorem dX3_followed_4 : decode cX3_followed 4 = .ok (.getfield 94, 3) := by decide +kernel
theorem dX3_followed_7 : decode cX3_followed 7 = .ok (.iload_n 1, 1) := by decide +kernel
theorem dX3_followed_8 : decode cX3_followed 8 = .ok (.iaload, 1) := by decide +kernel
theorem dX3_followed_9 : decode cX3_followed 9 = .ok (.aload_n 0, 1) := by decide +kernel
theorem dX3_followed_10 : decode cX3_followed 10 = .ok (.aload_n 0, 1) := by decide +kernel
theorem dX3_followed_11 : decode cX3_followed 11 = .ok (.getfield 15, 3) := by decide +kernel
theorem dX3_followed_14 : decode cX3_followed 14 = .ok (.iload_n 1, 1) := by decide +kernel
theorem dX3_followed_15 : decode cX3_followed 15 = .ok (.iaload, 1) := by decide +kernel
theorem dX3_followed_16 : decode cX3_followed 16 = .ok (.invokevirtual 97, 3) := by decide +kernel
theorem dX3_followed_19 : decode cX3_followed 19 = .ok (.iand, 1) := by decide +kernel
theorem dX3_followed_20 : decode cX3_followed 20 = .ok (.istore 6, 2) := by decide +kernel
theorem dX3_followed_22 : decode cX3_followed 22 = .ok (.iload_n 3, 1) := by decide +kernel
theorem dX3_followed_23 : decode cX3_followed 23 = .ok (.iload_n 1, 1) := by decide +kernel
theorem dX3_followed_24 : decode cX3_followed 24 = .ok (.ishr, 1) := by decide +kernel
theorem dX3_followed_25 : decode cX3_followed 25 = .ok (.iconst 1, 1) := by decide +kernel
theorem dX3_followed_26 : decode cX3_followed 26 = .ok (.iand, 1) := by decide +kernel
theorem dX3_followed_27 : decode cX3_followed 27 = .ok (.iconst 1, 1) := by decide +kernel
theorem dX3_followed_28 : decode cX3_followed 28 = .ok (.if_icmp .eq 12, 3) := by decide +kernel
theorem dX3_followed_31 : decode cX3_followed 31 = .ok (.iload 6, 2) := by decide +kernel
theorem dX3_followed_33 : decode cX3_followed 33 = .ok (.iload_n 2, 1) := by decide +kernel
theorem dX3_followed_34 : decode cX3_followed 34 = .ok (.ishr, 1) := by decide +kernel
theorem dX3_followed_35 : decode cX3_followed 35 = .ok (.iconst 1, 1) := by decide +kernel
theorem dX3_followed_36 : decode cX3_followed 36 = .ok (.iand, 1) := by decide +kernel
theorem dX3_followed_37 : decode cX3_followed 37 = .ok (.ifCond .ne 5, 3) := by decide +kernel
theorem dX3_followed_40 : decode cX3_followed 40 = .ok (.lconst 0, 1) := by decide +kernel
theorem dX3_followed_41 : decode cX3_followed 41 = .ok (.lreturn, 1) := by decide +kernel
theorem dX3_followed_42 : decode cX3_followed 42 = .ok (.aload_n 0, 1) := by decide +kernel
theorem dX3_followed_43 : decode cX3_followed 43 = .ok (.getfield 15, 3) := by decide +kernel
theorem dX3_followed_46 : decode cX3_followed 46 = .ok (.iload_n 1, 1) := by decide +kernel
theorem dX3_followed_47 : decode cX3_followed 47 = .ok (.iaload, 1) := by decide +kernel
theorem dX3_followed_48 : decode cX3_followed 48 = .ok (.istore 7, 2) := by decide +kernel
theorem dX3_followed_50 : decode cX3_followed 50 = .ok (.aload_n 0, 1) := by decide +kernel
theorem dX3_followed_51 : decode cX3_followed 51 = .ok (.getfield 15, 3) := by decide +kernel
theorem dX3_followed_54 : decode cX3_followed 54 = .ok (.iload_n 1, 1) := by decide +kernel
theorem dX3_followed_55 : decode cX3_followed 55 = .ok (.dup2, 1) := by decide +kernel
theorem dX3_followed_56 : decode cX3_followed 56 = .ok (.iaload, 1) := by decide +kernel
theorem dX3_followed_57 : decode cX3_followed 57 = .ok (.iconst 1, 1) := by decide +kernel
theorem dX3_followed_58 : decode cX3_followed 58 = .ok (.iload_n 2, 1) := by decide +kernel
theorem dX3_followed_59 : decode cX3_followed 59 = .ok (.ishl, 1) := by decide +kernel
theorem dX3_followed_60 : decode cX3_followed 60 = .ok (.ior, 1) := by decide +kernel
theorem dX3_followed_61 : decode cX3_followed 61 = .ok (.iastore, 1) := by decide +kernel
theorem dX3_followed_62 : decode cX3_followed 62 = .ok (.aload_n 0, 1) := by decide +kernel
theorem dX3_followed_63 : decode cX3_followed 63 = .ok (.iload_n 3, 1) := by decide +kernel
theorem dX3_followed_64 : decode cX3_followed 64 = .ok (.invokevirtual 40, 3) := by decide +kernel
theorem dX3_followed_67 : decode cX3_followed 67 = .ok (.lstore 8, 2) := by decide +kernel
theorem dX3_followed_69 : decode cX3_followed 69 = .ok (.aload_n 0, 1) := by decide +kernel
theorem dX3_followed_70 : decode cX3_followed 70 = .ok (.getfield 15, 3) := by decide +kernel
theorem dX3_followed_73 : decode cX3_followed 73 = .ok (.iload_n 1, 1) := by decide +kernel
theorem dX3_followed_74 : decode cX3_followed 74 = .ok (.iload 7, 2) := by decide +kernel
theorem dX3_followed_76 : decode cX3_followed 76 = .ok (.iastore, 1) := by decide +kernel
theorem dX3_followed_77 : decode cX3_followed 77 = .ok (.lload 8, 2) := by decide +kernel
theorem dX3_followed_79 : decode cX3_followed 79 = .ok (.invokestatic 32, 3) := by decide +kernel
theorem dX3_followed_82 : decode cX3_followed 82 = .ok (.ifCond .ne 34, 3) := by decide +kernel
theorem dX3_followed_85 : decode cX3_followed 85 = .ok (.lload 8, 2) := by decide +kernel
theorem dX3_followed_87 : decode cX3_followed 87 = .ok (.bipush 32, 2) := by decide +kernel
theorem dX3_followed_89 : decode cX3_followed 89 = .ok (.lshr, 1) := by decide +kernel
theorem dX3_followed_90 : decode cX3_followed 90 = .ok (.aload_n 0, 1) := by decide +kernel
theorem dX3_followed_91 : decode cX3_followed 91 = .ok (.getfield 26, 3) := by decide +kernel
theorem dX3_followed_94 : decode cX3_followed 94 = .ok (.getfield 117, 3) := by decide +kernel
theorem dX3_followed_97 : decode cX3_followed 97 = .ok (.iload_n 1, 1) := by decide +kernel
theorem dX3_followed_98 : decode cX3_followed 98 = .ok (.bipush 8, 2) := by decide +kernel
theorem dX3_followed_100 : decode cX3_followed 100 = .ok (.imul, 1) := by decide +kernel
theorem dX3_followed_101 : decode cX3_followed 101 = .ok (.iload_n 2, 1) := by decide +kernel
theorem dX3_followed_102 : decode cX3_followed 102 = .ok (.iadd, 1) := by decide +kernel
theorem dX3_followed_103 : decode cX3_followed 103 = .ok (.iaload, 1) := by decide +kernel
theorem dX3_followed_104 : decode cX3_followed 104 = .ok (.i2l, 1) := by decide +kernel
theorem dX3_followed_105 : decode cX3_followed 105 = .ok (.ladd, 1) := by decide +kernel
theorem dX3_followed_106 : decode cX3_followed 106 = .ok (.lload 4, 2) := by decide +kernel
theorem dX3_followed_108 : decode cX3_followed 108 = .ok (.lcmp, 1) := by decide +kernel
theorem dX3_followed_109 : decode cX3_followed 109 = .ok (.ifCond .ne 7, 3) := by decide +kernel
theorem dX3_followed_112 : decode cX3_followed 112 = .ok (.iconst 1, 1) := by decide +kernel
theorem dX3_followed_113 : decode cX3_followed 113 = .ok (.goto 4, 3) := by decide +kernel
theorem dX3_followed_116 : decode cX3_followed 116 = .ok (.iconst 0, 1) := by decide +kernel
theorem dX3_followed_117 : decode cX3_followed 117 = .ok (.istore 10, 2) := by decide +kernel
theorem dX3_followed_119 : decode cX3_followed 119 = .ok (.iload 10, 2) := by decide +kernel
theorem dX3_followed_121 : decode cX3_followed 121 = .ok (.ifCond .eq 12, 3) := by decide +kernel
theorem dX3_followed_124 : decode cX3_followed 124 = .ok (.lload 8, 2) := by decide +kernel
theorem dX3_followed_126 : decode cX3_followed 126 = .ok (.ldc2_w 44, 3) := by decide +kernel
theorem dX3_followed_129 : decode cX3_followed 129 = .ok (.land, 1) := by decide +kernel
theorem dX3_followed_130 : decode cX3_followed 130 = .ok (.goto 4, 3) := by decide +kernel
theorem dX3_followed_133 : decode cX3_followed 133 = .ok (.lconst 0, 1) := by decide +kernel
theorem dX3_followed_134 : decode cX3_followed 134 = .ok (.lreturn, 1) := by decide +kernel
def bX3_followed_0 (l : Launch) (E : Ev) (d : Nat) (Q : Option Value → Hp → Prop) : Kt := k_aload 0 (k_getR 3 10 2 (k_getR 0 7 2 (k_iload 1 (k_iaload (k_aload 0 (k_aload 0 (k_getR 3 10 5 (k_iload 1 (k_iaload (k_callV l E 3 10 YX3_roomBeside d 0 0 1 (k_iand (k_istore 6 (k_iload 3 (k_iload 1 (k_ishr (k_push (.int 1) (k_iand (k_push (.int 1) (k_icmp_eq (k_push (.long 0) (k_lret Q)) (k_iload 6 (k_iload 2 (k_ishr (k_push (.int 1) (k_iand (k_if_ne (k_aload 0 (k_getR 3 10 5 (k_iload 1 (k_iaload (k_istore 7 (k_aload 0 (k_getR 3 10 5 (k_iload 1 (k_dup2 (k_iaload (k_push (.int 1) (k_iload 2 (k_ishl (k_ior (k_iastore (k_aload 0 (k_iload 3 (k_callV l E 3 10 YX3_solve d 0 0 1 (k_lstore 8 (k_aload 0 (k_getR 3 10 5 (k_iload 1 (k_iload 7 (k_iastore (k_lload 8 (k_callS l E YX3_isNone d 0 0 1 (k_if_ne (k_push (.int 0) (Go l E YX3_followed (d + 1) 0 0 Q 0 0 117)) (k_lload 8 (k_push (.int 32) (k_lshr (k_aload 0 (k_getR 3 10 2 (k_getR 0 7 3 (k_iload 1 (k_push (.int 8) (k_imul (k_iload 2 (k_iadd (k_iaload (k_i2l (k_ladd (k_lload 4 (k_lcmp (k_if_ne (k_push (.int 0) (Go l E YX3_followed (d + 1) 0 0 Q 0 0 117)) (k_push (.int 1) (Go l E YX3_followed (d + 1) 0 0 Q 0 0 117)))))))))))))))))))))))))))))))))))))))))))))) (k_push (.long 0) (k_lret Q)))))))))))))))))))))))))))
set_option maxRecDepth 100000 in
set_option maxHeartbeats 4000000 in
theorem gX3_followed_0 {l : Launch} {E : Ev} {d : Nat} {Q : Option Value → Hp → Prop} {ls : Lv} {st : List Value} {h : Hp} (hB : bX3_followed_0 l E d Q ls st h) : Go l E YX3_followed (d + 1) 0 0 Q 0 0 0 ls st h :=
  (sd_aload_n (i := 0) rfl dX3_followed_0 (sd_getR clsX3 (f := 2) (by decide) (fun _ _ _ => rfl) mw_310 dX3_followed_1 (sd_getR clsX0 (f := 2) (by decide) (fun _ _ _ => rfl) mw_276 dX3_followed_4 (sd_iload_n (i := 1) rfl dX3_followed_7 (sd_iaload dX3_followed_8 (sd_aload_n (i := 0) rfl dX3_followed_9 (sd_aload_n (i := 0) rfl dX3_followed_10 (sd_getR clsX3 (f := 5) (by decide) (fun _ _ _ => rfl) mw_313 dX3_followed_11 (sd_iload_n (i := 1) rfl dX3_followed_14 (sd_iaload dX3_followed_15 (sd_callV (Y' := YX3_roomBeside) (mc' := 0) (ms' := 0) (n := 1) clsX3.1 mw_825 mw_827 mw_21 mw_104 mw_828 rfl (okmX3_roomBeside) (by decide) (Nat.le_refl _) (by decide) (by decide) dX3_followed_16 (sd_iand dX3_followed_19 (sd_istore (i := 6) (by decide) dX3_followed_20 (sd_iload_n (i := 3) rfl dX3_followed_22 (sd_iload_n (i := 1) rfl dX3_followed_23 (sd_ishr dX3_followed_24 (sd_iconst (v := 1) (by decide) dX3_followed_25 (sd_iand dX3_followed_26 (sd_iconst (v := 1) (by decide) dX3_followed_27 (sd_icmp_eq (tgt := 40) (by decide) dX3_followed_28 (sd_lconst (v := 0) (by decide) dX3_followed_40 (sd_lret rfl (by decide) (by decide) dX3_followed_41)) (sd_iload (n := 6) dX3_followed_31 (sd_iload_n (i := 2) rfl dX3_followed_33 (sd_ishr dX3_followed_34 (sd_iconst (v := 1) (by decide) dX3_followed_35 (sd_iand dX3_followed_36 (sd_if_ne (tgt := 42) (by decide) dX3_followed_37 (sd_aload_n (i := 0) rfl dX3_followed_42 (sd_getR clsX3 (f := 5) (by decide) (fun _ _ _ => rfl) mw_313 dX3_followed_43 (sd_iload_n (i := 1) rfl dX3_followed_46 (sd_iaload dX3_followed_47 (sd_istore (i := 7) (by decide) dX3_followed_48 (sd_aload_n (i := 0) rfl dX3_followed_50 (sd_getR clsX3 (f := 5) (by decide) (fun _ _ _ => rfl) mw_313 dX3_followed_51 (sd_iload_n (i := 1) rfl dX3_followed_54 (sd_dup2 dX3_followed_55 (sd_iaload dX3_followed_56 (sd_iconst (v := 1) (by decide) dX3_followed_57 (sd_iload_n (i := 2) rfl dX3_followed_58 (sd_ishl dX3_followed_59 (sd_ior dX3_followed_60 (sd_iastore dX3_followed_61 (sd_aload_n (i := 0) rfl dX3_followed_62 (sd_iload_n (i := 3) rfl dX3_followed_63 (sd_callV (Y' := YX3_solve) (mc' := 0) (ms' := 0) (n := 1) clsX3.1 mw_801 mw_803 mw_17 mw_104 mw_804 rfl (okmX3_solve) (by decide) (Nat.le_refl _) (by decide) (by decide) dX3_followed_64 (sd_lstore (i := 8) (by decide) dX3_followed_67 (sd_aload_n (i := 0) rfl dX3_followed_69 (sd_getR clsX3 (f := 5) (by decide) (fun _ _ _ => rfl) mw_313 dX3_followed_70 (sd_iload_n (i := 1) rfl dX3_followed_73 (sd_iload (n := 7) dX3_followed_74 (sd_iastore dX3_followed_76 (sd_lload (n := 8) dX3_followed_77 (sd_callS (Y' := YX3_isNone) (mc' := 0) (ms' := 0) (n := 1) mw_895 mw_896 mw_104 mw_897 (okmX3_isNone) (by decide) (Nat.le_refl _) (by decide) (by decide) dX3_followed_79 (sd_if_ne (tgt := 116) (by decide) dX3_followed_82 (sd_iconst (v := 0) (by decide) dX3_followed_116 (Sd.go)) (sd_lload (n := 8) dX3_followed_85 (sd_bipush (v := 32) (by decide) dX3_followed_87 (sd_lshr dX3_followed_89 (sd_aload_n (i := 0) rfl dX3_followed_90 (sd_getR clsX3 (f := 2) (by decide) (fun _ _ _ => rfl) mw_310 dX3_followed_91 (sd_getR clsX0 (f := 3) (by decide) (fun _ _ _ => rfl) mw_279 dX3_followed_94 (sd_iload_n (i := 1) rfl dX3_followed_97 (sd_bipush (v := 8) (by decide) dX3_followed_98 (sd_imul dX3_followed_100 (sd_iload_n (i := 2) rfl dX3_followed_101 (sd_iadd dX3_followed_102 (sd_iaload dX3_followed_103 (sd_i2l dX3_followed_104 (sd_ladd dX3_followed_105 (sd_lload (n := 4) dX3_followed_106 (sd_lcmp dX3_followed_108 (sd_if_ne (tgt := 116) (by decide) dX3_followed_109 (sd_iconst (v := 0) (by decide) dX3_followed_116 (Sd.go)) (sd_iconst (v := 1) (by decide) dX3_followed_112 (sd_goto (tgt := 117) (by decide) dX3_followed_113 (Sd.go))))))))))))))))))))))))))))))))))))))))))))))) (sd_lconst (v := 0) (by decide) dX3_followed_40 (sd_lret rfl (by decide) (by decide) dX3_followed_41))))))))))))))))))))))))))) : Sd l E YX3_followed (d + 1) 0 0 Q 0 0 0 (bX3_followed_0 l E d Q)) ls st h hB
def bX3_followed_117 (l : Launch) (E : Ev) (d : Nat) (Q : Option Value → Hp → Prop) : Kt := k_istore 10 (k_iload 10 (k_if_eq (k_push (.long 0) (k_lret Q)) (k_lload 8 (k_push (.long 4294967295) (k_land (k_lret Q))))))
set_option maxRecDepth 100000 in
set_option maxHeartbeats 4000000 in
theorem gX3_followed_117 {l : Launch} {E : Ev} {d : Nat} {Q : Option Value → Hp → Prop} {ls : Lv} {st : List Value} {h : Hp} (hB : bX3_followed_117 l E d Q ls st h) : Go l E YX3_followed (d + 1) 0 0 Q 0 0 117 ls st h :=
  (sd_istore (i := 10) (by decide) dX3_followed_117 (sd_iload (n := 10) dX3_followed_119 (sd_if_eq (tgt := 133) (by decide) dX3_followed_121 (sd_lconst (v := 0) (by decide) dX3_followed_133 (sd_lret rfl (by decide) (by decide) dX3_followed_134)) (sd_lload (n := 8) dX3_followed_124 (sd_ldc2 (v := 4294967295) mw_851 dX3_followed_126 (sd_land dX3_followed_129 (sd_goto (tgt := 134) (by decide) dX3_followed_130 (sd_lret rfl (by decide) (by decide) dX3_followed_134))))))) : Sd l E YX3_followed (d + 1) 0 0 Q 0 0 117 (bX3_followed_117 l E d Q)) ls st h hB
theorem eX3_followed {l : Launch} {E : Ev} {d : Nat} {Q : Option Value → Hp → Prop} {h : Hp} {a0 : Nat} {x1 : Int32} {x2 : Int32} {x3 : Int32} {x4 : Int64} (hk : Go l E YX3_followed d 0 0 Q 0 0 0 [some (.ref a0), some (.int x1), some (.int x2), some (.int x3), some (.long x4), none, none, none, none, none, none] [] h) : GoM l E YX3_followed d 0 0 [.ref a0, .int x1, .int x2, .int x3, .long x4] h Q := GoM.of (by decide +kernel) rfl (by simp [entA, YX3_followed]) hk
theorem dX3_meanCost_0 : decode cX3_meanCost 0 = .ok (.aload_n 0, 1) := by decide +kernel
theorem dX3_meanCost_1 : decode cX3_meanCost 1 = .ok (.aload_n 1, 1) := by decide +kernel
theorem dX3_meanCost_2 : decode cX3_meanCost 2 = .ok (.iconst 0, 1) := by decide +kernel
theorem dX3_meanCost_3 : decode cX3_meanCost 3 = .ok (.invokevirtual 36, 3) := by decide +kernel
theorem dX3_meanCost_6 : decode cX3_meanCost 6 = .ok (.aload_n 0, 1) := by decide +kernel
theorem dX3_meanCost_7 : decode cX3_meanCost 7 = .ok (.invokevirtual 75, 3) := by decide +kernel
theorem dX3_meanCost_10 : decode cX3_meanCost 10 = .ok (.aload_n 0, 1) := by decide +kernel
theorem dX3_meanCost_11 : decode cX3_meanCost 11 = .ok (.iconst 0, 1) := by decide +kernel
theorem dX3_meanCost_12 : decode cX3_meanCost 12 = .ok (.lconst 1, 1) := by decide +kernel
theorem dX3_meanCost_13 : decode cX3_meanCost 13 = .ok (.aload_n 2, 1) := by decide +kernel
theorem dX3_meanCost_14 : decode cX3_meanCost 14 = .ok (.invokevirtual 139, 3) := by decide +kernel
theorem dX3_meanCost_17 : decode cX3_meanCost 17 = .ok (.lreturn, 1) := by decide +kernel
def bX3_meanCost_0 (l : Launch) (E : Ev) (d : Nat) (Q : Option Value → Hp → Prop) : Kt := k_aload 0 (k_aload 1 (k_push (.int 0) (k_callV l E 3 10 YX3_begin d 0 0 2 (k_aload 0 (k_callV l E 3 10 YX3_open d 0 0 0 (k_aload 0 (k_push (.int 0) (k_push (.long 1) (k_aload 2 (k_callV l E 3 10 YX3_meanFrom d 0 0 3 (k_lret Q)))))))))))
set_option maxRecDepth 100000 in
set_option maxHeartbeats 4000000 in
theorem gX3_meanCost_0 {l : Launch} {E : Ev} {d : Nat} {Q : Option Value → Hp → Prop} {ls : Lv} {st : List Value} {h : Hp} (hB : bX3_meanCost_0 l E d Q ls st h) : Go l E YX3_meanCost (d + 1) 0 0 Q 0 0 0 ls st h :=
  (sd_aload_n (i := 0) rfl dX3_meanCost_0 (sd_aload_n (i := 1) rfl dX3_meanCost_1 (sd_iconst (v := 0) (by decide) dX3_meanCost_2 (sd_callV (Y' := YX3_begin) (mc' := 0) (ms' := 0) (n := 2) clsX3.1 mw_794 mw_796 mw_16 mw_104 mw_797 rfl (okmX3_begin) (by decide) (Nat.le_refl _) (by decide) (by decide) dX3_meanCost_3 (sd_aload_n (i := 0) rfl dX3_meanCost_6 (sd_callV (Y' := YX3_open) (mc' := 0) (ms' := 0) (n := 0) clsX3.1 mw_805 mw_807 mw_18 mw_104 mw_808 rfl (okmX3_open) (by decide) (Nat.le_refl _) (by decide) (by decide) dX3_meanCost_7 (sd_aload_n (i := 0) rfl dX3_meanCost_10 (sd_iconst (v := 0) (by decide) dX3_meanCost_11 (sd_lconst (v := 1) (by decide) dX3_meanCost_12 (sd_aload_n (i := 2) rfl dX3_meanCost_13 (sd_callV (Y' := YX3_meanFrom) (mc' := 0) (ms' := 0) (n := 3) clsX3.1 mw_1028 mw_1030 mw_40 mw_104 mw_1031 rfl (okmX3_meanFrom) (by decide) (Nat.le_refl _) (by decide) (by decide) dX3_meanCost_14 (sd_lret rfl (by decide) (by decide) dX3_meanCost_17))))))))))) : Sd l E YX3_meanCost (d + 1) 0 0 Q 0 0 0 (bX3_meanCost_0 l E d Q)) ls st h hB
theorem eX3_meanCost {l : Launch} {E : Ev} {d : Nat} {Q : Option Value → Hp → Prop} {h : Hp} {a0 : Nat} {x1 : Nat} {x2 : Nat} (hk : Go l E YX3_meanCost d 0 0 Q 0 0 0 [some (.ref a0), some (.ref x1), some (.ref x2)] [] h) : GoM l E YX3_meanCost d 0 0 [.ref a0, .ref x1, .ref x2] h Q := GoM.of (by decide +kernel) rfl (by simp [entA, YX3_meanCost]) hk
