theorem dX1_init_0 : decode cX1_init 0 = .ok (.aload_n 0, 1) := by decide +kernel
theorem dX1_init_1 : decode cX1_init 1 = .ok (.invokespecial 3, 3) := by decide +kernel
theorem dX1_init_4 : decode cX1_init 4 = .ok (.aload_n 0, 1) := by decide +kernel
theorem dX1_init_5 : decode cX1_init 5 = .ok (.bipush 36, 2) := by decide +kernel
theorem dX1_init_7 : decode cX1_init 7 = .ok (.newarray .long, 2) := by decide +kernel
theorem dX1_init_9 : decode cX1_init 9 = .ok (.putfield 11, 3) := by decide +kernel
theorem dX1_init_12 : decode cX1_init 12 = .ok (.aload_n 0, 1) := by decide +kernel
theorem dX1_init_13 : decode cX1_init 13 = .ok (.iconst 4, 1) := by decide +kernel
theorem dX1_init_14 : decode cX1_init 14 = .ok (.newarray .long, 2) := by decide +kernel
theorem dX1_init_16 : decode cX1_init 16 = .ok (.putfield 15, 3) := by decide +kernel
theorem dX1_init_19 : decode cX1_init 19 = .ok (.aload_n 0, 1) := by decide +kernel
theorem dX1_init_20 : decode cX1_init 20 = .ok (.iconst 4, 1) := by decide +kernel
theorem dX1_init_21 : decode cX1_init 21 = .ok (.newarray .long, 2) := by decide +kernel
theorem dX1_init_23 : decode cX1_init 23 = .ok (.putfield 18, 3) := by decide +kernel
theorem dX1_init_26 : decode cX1_init 26 = .ok (.aload_n 0, 1) := by decide +kernel
theorem dX1_init_27 : decode cX1_init 27 = .ok (.sipush 256, 3) := by decide +kernel
theorem dX1_init_30 : decode cX1_init 30 = .ok (.newarray .boolean, 2) := by decide +kernel
theorem dX1_init_32 : decode cX1_init 32 = .ok (.putfield 21, 3) := by decide +kernel
theorem dX1_init_35 : decode cX1_init 35 = .ok (.aload_n 0, 1) := by decide +kernel
theorem dX1_init_36 : decode cX1_init 36 = .ok (.aload_n 1, 1) := by decide +kernel
theorem dX1_init_37 : decode cX1_init 37 = .ok (.putfield 25, 3) := by decide +kernel
theorem dX1_init_40 : decode cX1_init 40 = .ok (.return_, 1) := by decide +kernel
def bX1_init_0 (l : Launch) (E : Ev) (d : Nat) (Q : Option Value → Hp → Prop) : Kt := k_aload 0 (k_objInit (k_aload 0 (k_push (.int 36) (k_newarr 2 36 (k_putR 1 7 0 (k_aload 0 (k_push (.int 4) (k_newarr 2 4 (k_putR 1 7 1 (k_aload 0 (k_push (.int 4) (k_newarr 2 4 (k_putR 1 7 2 (k_aload 0 (k_push (.int 256) (k_newarr 3 256 (k_putR 1 7 5 (k_aload 0 (k_aload 1 (k_putR 1 7 3 (k_vret Q)))))))))))))))))))))
set_option maxRecDepth 100000 in
set_option maxHeartbeats 4000000 in
theorem gX1_init_0 {l : Launch} {E : Ev} {d : Nat} {Q : Option Value → Hp → Prop} {ls : Lv} {st : List Value} {h : Hp} (hB : bX1_init_0 l E d Q ls st h) : Go l E YX1_init (d + 1) 4 300 Q 0 0 0 ls st h :=
  (sd_aload_n (i := 0) rfl dX1_init_0 (sd_objInit mw_349 mw_125 mw_126 (by omega) dX1_init_1 (sd_aload_n (i := 0) rfl dX1_init_4 (sd_bipush (v := 36) (by decide) dX1_init_5 (sd_newarr (at' := .long) (ki := 2) (B := 36) (by decide) mw_343 (by decide) (by decide) (by decide) dX1_init_7 (sd_putR clsX1 (f := 0) (by decide) (fun _ _ _ => rfl) rfl (Or.inr ⟨rfl, rfl, rfl⟩) mw_350 dX1_init_9 (sd_aload_n (i := 0) rfl dX1_init_12 (sd_iconst (v := 4) (by decide) dX1_init_13 (sd_newarr (at' := .long) (ki := 2) (B := 4) (by decide) mw_343 (by decide) (by decide) (by decide) dX1_init_14 (sd_putR clsX1 (f := 1) (by decide) (fun _ _ _ => rfl) rfl (Or.inr ⟨rfl, rfl, rfl⟩) mw_351 dX1_init_16 (sd_aload_n (i := 0) rfl dX1_init_19 (sd_iconst (v := 4) (by decide) dX1_init_20 (sd_newarr (at' := .long) (ki := 2) (B := 4) (by decide) mw_343 (by decide) (by decide) (by decide) dX1_init_21 (sd_putR clsX1 (f := 2) (by decide) (fun _ _ _ => rfl) rfl (Or.inr ⟨rfl, rfl, rfl⟩) mw_352 dX1_init_23 (sd_aload_n (i := 0) rfl dX1_init_26 (sd_sipush (v := 256) (by decide) dX1_init_27 (sd_newarr (at' := .boolean) (ki := 3) (B := 256) (by decide) mw_260 (by decide) (by decide) (by decide) dX1_init_30 (sd_putR clsX1 (f := 5) (by decide) (fun _ _ _ => rfl) rfl (Or.inr ⟨rfl, rfl, rfl⟩) mw_355 dX1_init_32 (sd_aload_n (i := 0) rfl dX1_init_35 (sd_aload_n (i := 1) rfl dX1_init_36 (sd_putR clsX1 (f := 3) (by decide) (fun _ _ _ => rfl) rfl (Or.inl rfl) mw_353 dX1_init_37 (sd_vret rfl (by decide) (by decide) dX1_init_40))))))))))))))))))))) : Sd l E YX1_init (d + 1) 4 300 Q 0 0 0 (bX1_init_0 l E d Q)) ls st h hB
theorem eX1_init {l : Launch} {E : Ev} {d : Nat} {Q : Option Value → Hp → Prop} {h : Hp} {a0 : Nat} {x1 : Nat} (hk : Go l E YX1_init d 4 300 Q 0 0 0 [some (.ref a0), some (.ref x1)] [] h) : GoM l E YX1_init d 4 300 [.ref a0, .ref x1] h Q := GoM.of (by decide +kernel) rfl (by simp [entA, YX1_init]) hk
theorem dX1_closeAll_0 : decode cX1_closeAll 0 = .ok (.aload_n 0, 1) := by decide +kernel
theorem dX1_closeAll_1 : decode cX1_closeAll 1 = .ok (.aload_n 1, 1) := by decide +kernel
theorem dX1_closeAll_2 : decode cX1_closeAll 2 = .ok (.invokevirtual 29, 3) := by decide +kernel
theorem dX1_closeAll_5 : decode cX1_closeAll 5 = .ok (.aload_n 0, 1) := by decide +kernel
theorem dX1_closeAll_6 : decode cX1_closeAll 6 = .ok (.iconst 1, 1) := by decide +kernel
theorem dX1_closeAll_7 : decode cX1_closeAll 7 = .ok (.aload_n 1, 1) := by decide +kernel
theorem dX1_closeAll_8 : decode cX1_closeAll 8 = .ok (.getfield 33, 3) := by decide +kernel
theorem dX1_closeAll_11 : decode cX1_closeAll 11 = .ok (.ishl, 1) := by decide +kernel
theorem dX1_closeAll_12 : decode cX1_closeAll 12 = .ok (.putfield 39, 3) := by decide +kernel
theorem dX1_closeAll_15 : decode cX1_closeAll 15 = .ok (.aload_n 0, 1) := by decide +kernel
theorem dX1_closeAll_16 : decode cX1_closeAll 16 = .ok (.iconst 0, 1) := by decide +kernel
theorem dX1_closeAll_17 : decode cX1_closeAll 17 = .ok (.iconst 0, 1) := by decide +kernel
theorem dX1_closeAll_18 : decode cX1_closeAll 18 = .ok (.invokevirtual 42, 3) := by decide +kernel
theorem dX1_closeAll_21 : decode cX1_closeAll 21 = .ok (.return_, 1) := by decide +kernel
def bX1_closeAll_0 (l : Launch) (E : Ev) (d : Nat) (Q : Option Value → Hp → Prop) : Kt := k_aload 0 (k_aload 1 (k_callV l E 1 7 YX1_begin d 0 0 1 (k_aload 0 (k_push (.int 1) (k_aload 1 (k_getI 0 7 0 (k_ishl (k_putI 1 7 6 (k_aload 0 (k_push (.int 0) (k_push (.int 0) (k_callV l E 1 7 YX1_closeFrom d 0 0 2 (k_vret Q)))))))))))))
set_option maxRecDepth 100000 in
set_option maxHeartbeats 4000000 in
theorem gX1_closeAll_0 {l : Launch} {E : Ev} {d : Nat} {Q : Option Value → Hp → Prop} {ls : Lv} {st : List Value} {h : Hp} (hB : bX1_closeAll_0 l E d Q ls st h) : Go l E YX1_closeAll (d + 1) 0 0 Q 0 0 0 ls st h :=
  (sd_aload_n (i := 0) rfl dX1_closeAll_0 (sd_aload_n (i := 1) rfl dX1_closeAll_1 (sd_callV (Y' := YX1_begin) (mc' := 0) (ms' := 0) (n := 1) clsX1.1 mw_860 mw_862 mw_25 mw_105 mw_863 rfl (okmX1_begin) (by decide) (Nat.le_refl _) (by decide) (by decide) dX1_closeAll_2 (sd_aload_n (i := 0) rfl dX1_closeAll_5 (sd_iconst (v := 1) (by decide) dX1_closeAll_6 (sd_aload_n (i := 1) rfl dX1_closeAll_7 (sd_getI clsX0 (f := 0) (by decide) (fun _ _ _ => rfl) mw_268 dX1_closeAll_8 (sd_ishl dX1_closeAll_11 (sd_putI clsX1 (f := 6) (by decide) (fun _ _ _ => rfl) rfl (Or.inl rfl) mw_357 dX1_closeAll_12 (sd_aload_n (i := 0) rfl dX1_closeAll_15 (sd_iconst (v := 0) (by decide) dX1_closeAll_16 (sd_iconst (v := 0) (by decide) dX1_closeAll_17 (sd_callV (Y' := YX1_closeFrom) (mc' := 0) (ms' := 0) (n := 2) clsX1.1 mw_865 mw_867 mw_26 mw_105 mw_868 rfl (okmX1_closeFrom) (by decide) (Nat.le_refl _) (by decide) (by decide) dX1_closeAll_18 (sd_vret rfl (by decide) (by decide) dX1_closeAll_21))))))))))))) : Sd l E YX1_closeAll (d + 1) 0 0 Q 0 0 0 (bX1_closeAll_0 l E d Q)) ls st h hB
theorem eX1_closeAll {l : Launch} {E : Ev} {d : Nat} {Q : Option Value → Hp → Prop} {h : Hp} {a0 : Nat} {x1 : Nat} (hk : Go l E YX1_closeAll d 0 0 Q 0 0 0 [some (.ref a0), some (.ref x1)] [] h) : GoM l E YX1_closeAll d 0 0 [.ref a0, .ref x1] h Q := GoM.of (by decide +kernel) rfl (by simp [entA, YX1_closeAll]) hk
theorem dX1_closeFrom_0 : decode cX1_closeFrom 0 = .ok (.iload_n 1, 1) := by decide +kernel
theorem dX1_closeFrom_1 : decode cX1_closeFrom 1 = .ok (.aload_n 0, 1) := by decide +kernel
theorem dX1_closeFrom_2 : decode cX1_closeFrom 2 = .ok (.getfield 25, 3) := by decide +kernel
theorem dX1_closeFrom_5 : decode cX1_closeFrom 5 = .ok (.getfield 33, 3) := by decide +kernel
theorem dX1_closeFrom_8 : decode cX1_closeFrom 8 = .ok (.if_icmp .lt 23, 3) := by decide +kernel
theorem dX1_closeFrom_11 : decode cX1_closeFrom 11 = .ok (.aload_n 0, 1) := by decide +kernel
theorem dX1_closeFrom_12 : decode cX1_closeFrom 12 = .ok (.getfield 21, 3) := by decide +kernel
theorem dX1_closeFrom_15 : decode cX1_closeFrom 15 = .ok (.iload_n 2, 1) := by decide +kernel
theorem dX1_closeFrom_16 : decode cX1_closeFrom 16 = .ok (.aload_n 0, 1) := by decide +kernel
theorem dX1_closeFrom_17 : decode cX1_closeFrom 17 = .ok (.iload_n 1, 1) := by decide +kernel
theorem dX1_closeFrom_18 : decode cX1_closeFrom 18 = .ok (.invokevirtual 46, 3) := by decide +kernel
theorem dX1_closeFrom_21 : decode cX1_closeFrom 21 = .ok (.ifCond .ne 7, 3) := by decide +kernel
theorem dX1_closeFrom_24 : decode cX1_closeFrom 24 = .ok (.iconst 1, 1) := by decide +kernel
theorem dX1_closeFrom_25 : decode cX1_closeFrom 25 = .ok (.goto 4, 3) := by decide +kernel
theorem dX1_closeFrom_28 : decode cX1_closeFrom 28 = .ok (.iconst 0, 1) := by decide +kernel
theorem dX1_closeFrom_29 : decode cX1_closeFrom 29 = .ok (.bastore, 1) := by decide +kernel
theorem dX1_closeFrom_30 : decode cX1_closeFrom 30 = .ok (.return_, 1) := by decide +kernel
theorem dX1_closeFrom_31 : decode cX1_closeFrom 31 = .ok (.aload_n 0, 1) := by decide +kernel
theorem dX1_closeFrom_32 : decode cX1_closeFrom 32 = .ok (.iload_n 1, 1) := by decide +kernel
theorem dX1_closeFrom_33 : decode cX1_closeFrom 33 = .ok (.invokevirtual 50, 3) := by decide +kernel
theorem dX1_closeFrom_36 : decode cX1_closeFrom 36 = .ok (.aload_n 0, 1) := by decide +kernel
theorem dX1_closeFrom_37 : decode cX1_closeFrom 37 = .ok (.iload_n 1, 1) := by decide +kernel
theorem dX1_closeFrom_38 : decode cX1_closeFrom 38 = .ok (.iconst 1, 1) := by decide +kernel
theorem dX1_closeFrom_39 : decode cX1_closeFrom 39 = .ok (.iadd, 1) := by decide +kernel
theorem dX1_closeFrom_40 : decode cX1_closeFrom 40 = .ok (.iload_n 2, 1) := by decide +kernel
theorem dX1_closeFrom_41 : decode cX1_closeFrom 41 = .ok (.iconst 1, 1) := by decide +kernel
theorem dX1_closeFrom_42 : decode cX1_closeFrom 42 = .ok (.iload_n 1, 1) := by decide +kernel
theorem dX1_closeFrom_43 : decode cX1_closeFrom 43 = .ok (.ishl, 1) := by decide +kernel
theorem dX1_closeFrom_44 : decode cX1_closeFrom 44 = .ok (.ior, 1) := by decide +kernel
theorem dX1_closeFrom_45 : decode cX1_closeFrom 45 = .ok (.invokevirtual 42, 3) := by decide +kernel
theorem dX1_closeFrom_48 : decode cX1_closeFrom 48 = .ok (.aload_n 0, 1) := by decide +kernel
theorem dX1_closeFrom_49 : decode cX1_closeFrom 49 = .ok (.iload_n 1, 1) := by decide +kernel
theorem dX1_closeFrom_50 : decode cX1_closeFrom 50 = .ok (.invokevirtual 54, 3) := by decide +kernel
theorem dX1_closeFrom_53 : decode cX1_closeFrom 53 = .ok (.aload_n 0, 1) := by decide +kernel
theorem dX1_closeFrom_54 : decode cX1_closeFrom 54 = .ok (.iload_n 1, 1) := by decide +kernel
theorem dX1_closeFrom_55 : decode cX1_closeFrom 55 = .ok (.iconst 1, 1) := by decide +kernel
theorem dX1_closeFrom_56 : decode cX1_closeFrom 56 = .ok (.iadd, 1) := by decide +kernel
theorem dX1_closeFrom_57 : decode cX1_closeFrom 57 = .ok (.iload_n 2, 1) := by decide +kernel
theorem dX1_closeFrom_58 : decode cX1_closeFrom 58 = .ok (.invokevirtual 42, 3) := by decide +kernel
theorem dX1_closeFrom_61 : decode cX1_closeFrom 61 = .ok (.return_, 1) := by decide +kernel
def bX1_closeFrom_0 (l : Launch) (E : Ev) (d : Nat) (Q : Option Value → Hp → Prop) : Kt := k_iload 1 (k_aload 0 (k_getR 1 7 3 (k_getI 0 7 0 (k_icmp_lt (k_aload 0 (k_iload 1 (k_callV l E 1 7 YX1_rest d 0 0 1 (k_aload 0 (k_iload 1 (k_push (.int 1) (k_iadd (k_iload 2 (k_push (.int 1) (k_iload 1 (k_ishl (k_ior (k_callV l E 1 7 YX1_closeFrom d 0 0 2 (k_aload 0 (k_iload 1 (k_callV l E 1 7 YX1_play d 0 0 1 (k_aload 0 (k_iload 1 (k_push (.int 1) (k_iadd (k_iload 2 (k_callV l E 1 7 YX1_closeFrom d 0 0 2 (k_vret Q))))))))))))))))))))))) (k_aload 0 (k_getR 1 7 5 (k_iload 2 (k_aload 0 (k_iload 1 (k_callV l E 1 7 YX1_fills d 0 0 1 (k_if_ne (k_push (.int 0) (k_zastore (k_vret Q))) (k_push (.int 1) (k_zastore (k_vret Q))))))))))))))
set_option maxRecDepth 100000 in
set_option maxHeartbeats 4000000 in
theorem gX1_closeFrom_0 {l : Launch} {E : Ev} {d : Nat} {Q : Option Value → Hp → Prop} {ls : Lv} {st : List Value} {h : Hp} (hB : bX1_closeFrom_0 l E d Q ls st h) : Go l E YX1_closeFrom (d + 1) 0 0 Q 0 0 0 ls st h :=
  (sd_iload_n (i := 1) rfl dX1_closeFrom_0 (sd_aload_n (i := 0) rfl dX1_closeFrom_1 (sd_getR clsX1 (f := 3) (by decide) (fun _ _ _ => rfl) mw_353 dX1_closeFrom_2 (sd_getI clsX0 (f := 0) (by decide) (fun _ _ _ => rfl) mw_268 dX1_closeFrom_5 (sd_icmp_lt (tgt := 31) (by decide) dX1_closeFrom_8 (sd_aload_n (i := 0) rfl dX1_closeFrom_31 (sd_iload_n (i := 1) rfl dX1_closeFrom_32 (sd_callV (Y' := YX1_rest) (mc' := 0) (ms' := 0) (n := 1) clsX1.1 mw_873 mw_875 mw_28 mw_105 mw_876 rfl (okmX1_rest) (by decide) (Nat.le_refl _) (by decide) (by decide) dX1_closeFrom_33 (sd_aload_n (i := 0) rfl dX1_closeFrom_36 (sd_iload_n (i := 1) rfl dX1_closeFrom_37 (sd_iconst (v := 1) (by decide) dX1_closeFrom_38 (sd_iadd dX1_closeFrom_39 (sd_iload_n (i := 2) rfl dX1_closeFrom_40 (sd_iconst (v := 1) (by decide) dX1_closeFrom_41 (sd_iload_n (i := 1) rfl dX1_closeFrom_42 (sd_ishl dX1_closeFrom_43 (sd_ior dX1_closeFrom_44 (sd_callV (Y' := YX1_closeFrom) (mc' := 0) (ms' := 0) (n := 2) clsX1.1 mw_865 mw_867 mw_26 mw_105 mw_868 rfl (okmX1_closeFrom) (by decide) (Nat.le_refl _) (by decide) (by decide) dX1_closeFrom_45 (sd_aload_n (i := 0) rfl dX1_closeFrom_48 (sd_iload_n (i := 1) rfl dX1_closeFrom_49 (sd_callV (Y' := YX1_play) (mc' := 0) (ms' := 0) (n := 1) clsX1.1 mw_878 mw_880 mw_29 mw_105 mw_881 rfl (okmX1_play) (by decide) (Nat.le_refl _) (by decide) (by decide) dX1_closeFrom_50 (sd_aload_n (i := 0) rfl dX1_closeFrom_53 (sd_iload_n (i := 1) rfl dX1_closeFrom_54 (sd_iconst (v := 1) (by decide) dX1_closeFrom_55 (sd_iadd dX1_closeFrom_56 (sd_iload_n (i := 2) rfl dX1_closeFrom_57 (sd_callV (Y' := YX1_closeFrom) (mc' := 0) (ms' := 0) (n := 2) clsX1.1 mw_865 mw_867 mw_26 mw_105 mw_868 rfl (okmX1_closeFrom) (by decide) (Nat.le_refl _) (by decide) (by decide) dX1_closeFrom_58 (sd_vret rfl (by decide) (by decide) dX1_closeFrom_61))))))))))))))))))))))) (sd_aload_n (i := 0) rfl dX1_closeFrom_11 (sd_getR clsX1 (f := 5) (by decide) (fun _ _ _ => rfl) mw_355 dX1_closeFrom_12 (sd_iload_n (i := 2) rfl dX1_closeFrom_15 (sd_aload_n (i := 0) rfl dX1_closeFrom_16 (sd_iload_n (i := 1) rfl dX1_closeFrom_17 (sd_callV (Y' := YX1_fills) (mc' := 0) (ms' := 0) (n := 1) clsX1.1 mw_869 mw_871 mw_27 mw_105 mw_872 rfl (okmX1_fills) (by decide) (Nat.le_refl _) (by decide) (by decide) dX1_closeFrom_18 (sd_if_ne (tgt := 28) (by decide) dX1_closeFrom_21 (sd_iconst (v := 0) (by decide) dX1_closeFrom_28 (sd_zastore dX1_closeFrom_29 (sd_vret rfl (by decide) (by decide) dX1_closeFrom_30))) (sd_iconst (v := 1) (by decide) dX1_closeFrom_24 (sd_goto (tgt := 29) (by decide) dX1_closeFrom_25 (sd_zastore dX1_closeFrom_29 (sd_vret rfl (by decide) (by decide) dX1_closeFrom_30))))))))))))))) : Sd l E YX1_closeFrom (d + 1) 0 0 Q 0 0 0 (bX1_closeFrom_0 l E d Q)) ls st h hB
theorem eX1_closeFrom {l : Launch} {E : Ev} {d : Nat} {Q : Option Value → Hp → Prop} {h : Hp} {a0 : Nat} {x1 : Int32} {x2 : Int32} (hk : Go l E YX1_closeFrom d 0 0 Q 0 0 0 [some (.ref a0), some (.int x1), some (.int x2)] [] h) : GoM l E YX1_closeFrom d 0 0 [.ref a0, .int x1, .int x2] h Q := GoM.of (by decide +kernel) rfl (by simp [entA, YX1_closeFrom]) hk
theorem dX1_opens_0 : decode cX1_opens 0 = .ok (.aload_n 0, 1) := by decide +kernel
theorem dX1_opens_1 : decode cX1_opens 1 = .ok (.aload_n 1, 1) := by decide +kernel
theorem dX1_opens_2 : decode cX1_opens 2 = .ok (.invokevirtual 29, 3) := by decide +kernel
theorem dX1_opens_5 : decode cX1_opens 5 = .ok (.aload_n 0, 1) := by decide +kernel
theorem dX1_opens_6 : decode cX1_opens 6 = .ok (.iconst 0, 1) := by decide +kernel
theorem dX1_opens_7 : decode cX1_opens 7 = .ok (.iload_n 2, 1) := by decide +kernel
theorem dX1_opens_8 : decode cX1_opens 8 = .ok (.invokevirtual 57, 3) := by decide +kernel
theorem dX1_opens_11 : decode cX1_opens 11 = .ok (.ireturn, 1) := by decide +kernel
def bX1_opens_0 (l : Launch) (E : Ev) (d : Nat) (Q : Option Value → Hp → Prop) : Kt := k_aload 0 (k_aload 1 (k_callV l E 1 7 YX1_begin d 0 0 1 (k_aload 0 (k_push (.int 0) (k_iload 2 (k_callV l E 1 7 YX1_opensFrom d 0 0 2 (k_iret .boolean Q)))))))
set_option maxRecDepth 100000 in
set_option maxHeartbeats 4000000 in
theorem gX1_opens_0 {l : Launch} {E : Ev} {d : Nat} {Q : Option Value → Hp → Prop} {ls : Lv} {st : List Value} {h : Hp} (hB : bX1_opens_0 l E d Q ls st h) : Go l E YX1_opens (d + 1) 0 0 Q 0 0 0 ls st h :=
  (sd_aload_n (i := 0) rfl dX1_opens_0 (sd_aload_n (i := 1) rfl dX1_opens_1 (sd_callV (Y' := YX1_begin) (mc' := 0) (ms' := 0) (n := 1) clsX1.1 mw_860 mw_862 mw_25 mw_105 mw_863 rfl (okmX1_begin) (by decide) (Nat.le_refl _) (by decide) (by decide) dX1_opens_2 (sd_aload_n (i := 0) rfl dX1_opens_5 (sd_iconst (v := 0) (by decide) dX1_opens_6 (sd_iload_n (i := 2) rfl dX1_opens_7 (sd_callV (Y' := YX1_opensFrom) (mc' := 0) (ms' := 0) (n := 2) clsX1.1 mw_1074 mw_1076 mw_42 mw_105 mw_1077 rfl (okmX1_opensFrom) (by decide) (Nat.le_refl _) (by decide) (by decide) dX1_opens_8 (sd_iret (ty := .boolean) rfl (by decide) (by decide) dX1_opens_11))))))) : Sd l E YX1_opens (d + 1) 0 0 Q 0 0 0 (bX1_opens_0 l E d Q)) ls st h hB
theorem eX1_opens {l : Launch} {E : Ev} {d : Nat} {Q : Option Value → Hp → Prop} {h : Hp} {a0 : Nat} {x1 : Nat} {x2 : Int32} (hk : Go l E YX1_opens d 0 0 Q 0 0 0 [some (.ref a0), some (.ref x1), some (.int x2)] [] h) : GoM l E YX1_opens d 0 0 [.ref a0, .ref x1, .int x2] h Q := GoM.of (by decide +kernel) rfl (by simp [entA, YX1_opens]) hk
theorem dX1_opensFrom_0 : decode cX1_opensFrom 0 = .ok (.iload_n 1, 1) := by decide +kernel
theorem dX1_opensFrom_1 : decode cX1_opensFrom 1 = .ok (.aload_n 0, 1) := by decide +kernel
theorem dX1_opensFrom_2 : decode cX1_opensFrom 2 = .ok (.getfield 25, 3) := by decide +kernel
theorem dX1_opensFrom_5 : decode cX1_opensFrom 5 = .ok (.getfield 33, 3) := by decide +kernel
theorem dX1_opensFrom_8 : decode cX1_opensFrom 8 = .ok (.if_icmp .ge 11, 3) := by decide +kernel
theorem dX1_opensFrom_11 : decode cX1_opensFrom 11 = .ok (.aload_n 0, 1) := by decide +kernel
theorem dX1_opensFrom_12 : decode cX1_opensFrom 12 = .ok (.iload_n 1, 1) := by decide +kernel
theorem dX1_opensFrom_13 : decode cX1_opensFrom 13 = .ok (.invokevirtual 46, 3) := by decide +kernel
theorem dX1_opensFrom_16 : decode cX1_opensFrom 16 = .ok (.ifCond .eq 9, 3) := by decide +kernel
theorem dX1_opensFrom_19 : decode cX1_opensFrom 19 = .ok (.aload_n 0, 1) := by decide +kernel
theorem dX1_opensFrom_20 : decode cX1_opensFrom 20 = .ok (.iload_n 1, 1) := by decide +kernel
theorem dX1_opensFrom_21 : decode cX1_opensFrom 21 = .ok (.invokevirtual 46, 3) := by decide +kernel
theorem dX1_opensFrom_24 : decode cX1_opensFrom 24 = .ok (.ireturn, 1) := by decide +kernel
theorem dX1_opensFrom_25 : decode cX1_opensFrom 25 = .ok (.aload_n 0, 1) := by decide +kernel
theorem dX1_opensFrom_26 : decode cX1_opensFrom 26 = .ok (.iload_n 1, 1) := by decide +kernel
theorem dX1_opensFrom_27 : decode cX1_opensFrom 27 = .ok (.invokevirtual 50, 3) := by decide +kernel
theorem dX1_opensFrom_30 : decode cX1_opensFrom 30 = .ok (.iload_n 2, 1) := by decide +kernel
theorem dX1_opensFrom_31 : decode cX1_opensFrom 31 = .ok (.ifCond .le 18, 3) := by decide +kernel
theorem dX1_opensFrom_34 : decode cX1_opensFrom 34 = .ok (.aload_n 0, 1) := by decide +kernel
theorem dX1_opensFrom_35 : decode cX1_opensFrom 35 = .ok (.iload_n 1, 1) := by decide +kernel
theorem dX1_opensFrom_36 : decode cX1_opensFrom 36 = .ok (.iconst 1, 1) := by decide +kernel
theorem dX1_opensFrom_37 : decode cX1_opensFrom 37 = .ok (.iadd, 1) := by decide +kernel
theorem dX1_opensFrom_38 : decode cX1_opensFrom 38 = .ok (.iload_n 2, 1) := by decide +kernel
theorem dX1_opensFrom_39 : decode cX1_opensFrom 39 = .ok (.iconst 1, 1) := by decide +kernel
theorem dX1_opensFrom_40 : decode cX1_opensFrom 40 = .ok (.isub, 1) := by decide +kernel
theorem dX1_opensFrom_41 : decode cX1_opensFrom 41 = .ok (.invokevirtual 57, 3) := by decide +kernel
theorem dX1_opensFrom_44 : decode cX1_opensFrom 44 = .ok (.ifCond .ne 5, 3) := by decide +kernel
theorem dX1_opensFrom_47 : decode cX1_opensFrom 47 = .ok (.iconst 0, 1) := by decide +kernel
theorem dX1_opensFrom_48 : decode cX1_opensFrom 48 = .ok (.ireturn, 1) := by decide +kernel
theorem dX1_opensFrom_49 : decode cX1_opensFrom 49 = .ok (.aload_n 0, 1) := by decide +kernel
theorem dX1_opensFrom_50 : decode cX1_opensFrom 50 = .ok (.iload_n 1, 1) := by decide +kernel
theorem dX1_opensFrom_51 : decode cX1_opensFrom 51 = .ok (.invokevirtual 54, 3) := by decide +kernel
theorem dX1_opensFrom_54 : decode cX1_opensFrom 54 = .ok (.aload_n 0, 1) := by decide +kernel
theorem dX1_opensFrom_55 : decode cX1_opensFrom 55 = .ok (.iload_n 1, 1) := by decide +kernel
theorem dX1_opensFrom_56 : decode cX1_opensFrom 56 = .ok (.iconst 1, 1) := by decide +kernel
theorem dX1_opensFrom_57 : decode cX1_opensFrom 57 = .ok (.iadd, 1) := by decide +kernel
theorem dX1_opensFrom_58 : decode cX1_opensFrom 58 = .ok (.iload_n 2, 1) := by decide +kernel
theorem dX1_opensFrom_59 : decode cX1_opensFrom 59 = .ok (.invokevirtual 57, 3) := by decide +kernel
theorem dX1_opensFrom_62 : decode cX1_opensFrom 62 = .ok (.ireturn, 1) := by decide +kernel
def bX1_opensFrom_0 (l : Launch) (E : Ev) (d : Nat) (Q : Option Value → Hp → Prop) : Kt := k_iload 1 (k_aload 0 (k_getR 1 7 3 (k_getI 0 7 0 (k_icmp_ge (Go l E YX1_opensFrom (d + 1) 0 0 Q 0 0 19) (k_aload 0 (k_iload 1 (k_callV l E 1 7 YX1_fills d 0 0 1 (k_if_eq (k_aload 0 (k_iload 1 (k_callV l E 1 7 YX1_rest d 0 0 1 (k_iload 2 (k_if_le (Go l E YX1_opensFrom (d + 1) 0 0 Q 0 0 49) (k_aload 0 (k_iload 1 (k_push (.int 1) (k_iadd (k_iload 2 (k_push (.int 1) (k_isub (k_callV l E 1 7 YX1_opensFrom d 0 0 2 (k_if_ne (Go l E YX1_opensFrom (d + 1) 0 0 Q 0 0 49) (k_push (.int 0) (k_iret .boolean Q)))))))))))))))) (Go l E YX1_opensFrom (d + 1) 0 0 Q 0 0 19)))))))))
set_option maxRecDepth 100000 in
set_option maxHeartbeats 4000000 in
theorem gX1_opensFrom_0 {l : Launch} {E : Ev} {d : Nat} {Q : Option Value → Hp → Prop} {ls : Lv} {st : List Value} {h : Hp} (hB : bX1_opensFrom_0 l E d Q ls st h) : Go l E YX1_opensFrom (d + 1) 0 0 Q 0 0 0 ls st h :=
  (sd_iload_n (i := 1) rfl dX1_opensFrom_0 (sd_aload_n (i := 0) rfl dX1_opensFrom_1 (sd_getR clsX1 (f := 3) (by decide) (fun _ _ _ => rfl) mw_353 dX1_opensFrom_2 (sd_getI clsX0 (f := 0) (by decide) (fun _ _ _ => rfl) mw_268 dX1_opensFrom_5 (sd_icmp_ge (tgt := 19) (by decide) dX1_opensFrom_8 (Sd.go) (sd_aload_n (i := 0) rfl dX1_opensFrom_11 (sd_iload_n (i := 1) rfl dX1_opensFrom_12 (sd_callV (Y' := YX1_fills) (mc' := 0) (ms' := 0) (n := 1) clsX1.1 mw_869 mw_871 mw_27 mw_105 mw_872 rfl (okmX1_fills) (by decide) (Nat.le_refl _) (by decide) (by decide) dX1_opensFrom_13 (sd_if_eq (tgt := 25) (by decide) dX1_opensFrom_16 (sd_aload_n (i := 0) rfl dX1_opensFrom_25 (sd_iload_n (i := 1) rfl dX1_opensFrom_26 (sd_callV (Y' := YX1_rest) (mc' := 0) (ms' := 0) (n := 1) clsX1.1 mw_873 mw_875 mw_28 mw_105 mw_876 rfl (okmX1_rest) (by decide) (Nat.le_refl _) (by decide) (by decide) dX1_opensFrom_27 (sd_iload_n (i := 2) rfl dX1_opensFrom_30 (sd_if_le (tgt := 49) (by decide) dX1_opensFrom_31 (Sd.go) (sd_aload_n (i := 0) rfl dX1_opensFrom_34 (sd_iload_n (i := 1) rfl dX1_opensFrom_35 (sd_iconst (v := 1) (by decide) dX1_opensFrom_36 (sd_iadd dX1_opensFrom_37 (sd_iload_n (i := 2) rfl dX1_opensFrom_38 (sd_iconst (v := 1) (by decide) dX1_opensFrom_39 (sd_isub dX1_opensFrom_40 (sd_callV (Y' := YX1_opensFrom) (mc' := 0) (ms' := 0) (n := 2) clsX1.1 mw_1074 mw_1076 mw_42 mw_105 mw_1077 rfl (okmX1_opensFrom) (by decide) (Nat.le_refl _) (by decide) (by decide) dX1_opensFrom_41 (sd_if_ne (tgt := 49) (by decide) dX1_opensFrom_44 (Sd.go) (sd_iconst (v := 0) (by decide) dX1_opensFrom_47 (sd_iret (ty := .boolean) rfl (by decide) (by decide) dX1_opensFrom_48)))))))))))))))) (Sd.go))))))))) : Sd l E YX1_opensFrom (d + 1) 0 0 Q 0 0 0 (bX1_opensFrom_0 l E d Q)) ls st h hB
def bX1_opensFrom_19 (l : Launch) (E : Ev) (d : Nat) (Q : Option Value → Hp → Prop) : Kt := k_aload 0 (k_iload 1 (k_callV l E 1 7 YX1_fills d 0 0 1 (k_iret .boolean Q)))
set_option maxRecDepth 100000 in
set_option maxHeartbeats 4000000 in
theorem gX1_opensFrom_19 {l : Launch} {E : Ev} {d : Nat} {Q : Option Value → Hp → Prop} {ls : Lv} {st : List Value} {h : Hp} (hB : bX1_opensFrom_19 l E d Q ls st h) : Go l E YX1_opensFrom (d + 1) 0 0 Q 0 0 19 ls st h :=
  (sd_aload_n (i := 0) rfl dX1_opensFrom_19 (sd_iload_n (i := 1) rfl dX1_opensFrom_20 (sd_callV (Y' := YX1_fills) (mc' := 0) (ms' := 0) (n := 1) clsX1.1 mw_869 mw_871 mw_27 mw_105 mw_872 rfl (okmX1_fills) (by decide) (Nat.le_refl _) (by decide) (by decide) dX1_opensFrom_21 (sd_iret (ty := .boolean) rfl (by decide) (by decide) dX1_opensFrom_24))) : Sd l E YX1_opensFrom (d + 1) 0 0 Q 0 0 19 (bX1_opensFrom_19 l E d Q)) ls st h hB
def bX1_opensFrom_49 (l : Launch) (E : Ev) (d : Nat) (Q : Option Value → Hp → Prop) : Kt := k_aload 0 (k_iload 1 (k_callV l E 1 7 YX1_play d 0 0 1 (k_aload 0 (k_iload 1 (k_push (.int 1) (k_iadd (k_iload 2 (k_callV l E 1 7 YX1_opensFrom d 0 0 2 (k_iret .boolean Q)))))))))
set_option maxRecDepth 100000 in
set_option maxHeartbeats 4000000 in
theorem gX1_opensFrom_49 {l : Launch} {E : Ev} {d : Nat} {Q : Option Value → Hp → Prop} {ls : Lv} {st : List Value} {h : Hp} (hB : bX1_opensFrom_49 l E d Q ls st h) : Go l E YX1_opensFrom (d + 1) 0 0 Q 0 0 49 ls st h :=
  (sd_aload_n (i := 0) rfl dX1_opensFrom_49 (sd_iload_n (i := 1) rfl dX1_opensFrom_50 (sd_callV (Y' := YX1_play) (mc' := 0) (ms' := 0) (n := 1) clsX1.1 mw_878 mw_880 mw_29 mw_105 mw_881 rfl (okmX1_play) (by decide) (Nat.le_refl _) (by decide) (by decide) dX1_opensFrom_51 (sd_aload_n (i := 0) rfl dX1_opensFrom_54 (sd_iload_n (i := 1) rfl dX1_opensFrom_55 (sd_iconst (v := 1) (by decide) dX1_opensFrom_56 (sd_iadd dX1_opensFrom_57 (sd_iload_n (i := 2) rfl dX1_opensFrom_58 (sd_callV (Y' := YX1_opensFrom) (mc' := 0) (ms' := 0) (n := 2) clsX1.1 mw_1074 mw_1076 mw_42 mw_105 mw_1077 rfl (okmX1_opensFrom) (by decide) (Nat.le_refl _) (by decide) (by decide) dX1_opensFrom_59 (sd_iret (ty := .boolean) rfl (by decide) (by decide) dX1_opensFrom_62))))))))) : Sd l E YX1_opensFrom (d + 1) 0 0 Q 0 0 49 (bX1_opensFrom_49 l E d Q)) ls st h hB
theorem eX1_opensFrom {l : Launch} {E : Ev} {d : Nat} {Q : Option Value → Hp → Prop} {h : Hp} {a0 : Nat} {x1 : Int32} {x2 : Int32} (hk : Go l E YX1_opensFrom d 0 0 Q 0 0 0 [some (.ref a0), some (.int x1), some (.int x2)] [] h) : GoM l E YX1_opensFrom d 0 0 [.ref a0, .int x1, .int x2] h Q := GoM.of (by decide +kernel) rfl (by simp [entA, YX1_opensFrom]) hk
theorem dX1_begin_0 : decode cX1_begin 0 = .ok (.aload_n 0, 1) := by decide +kernel
theorem dX1_begin_1 : decode cX1_begin 1 = .ok (.aload_n 1, 1) := by decide +kernel
theorem dX1_begin_2 : decode cX1_begin 2 = .ok (.putfield 25, 3) := by decide +kernel
theorem dX1_begin_5 : decode cX1_begin 5 = .ok (.aload_n 0, 1) := by decide +kernel
theorem dX1_begin_6 : decode cX1_begin 6 = .ok (.aload_n 1, 1) := by decide +kernel
theorem dX1_begin_7 : decode cX1_begin 7 = .ok (.getfield 61, 3) := by decide +kernel
theorem dX1_begin_10 : decode cX1_begin 10 = .ok (.bipush 6, 2) := by decide +kernel
theorem dX1_begin_12 : decode cX1_begin 12 = .ok (.if_icmp .gt 7, 3) := by decide +kernel
theorem dX1_begin_15 : decode cX1_begin 15 = .ok (.iconst 1, 1) := by decide +kernel
theorem dX1_begin_16 : decode cX1_begin 16 = .ok (.goto 17, 3) := by decide +kernel
theorem dX1_begin_19 : decode cX1_begin 19 = .ok (.aload_n 1, 1) := by decide +kernel
theorem dX1_begin_20 : decode cX1_begin 20 = .ok (.getfield 61, 3) := by decide +kernel
theorem dX1_begin_23 : decode cX1_begin 23 = .ok (.bipush 7, 2) := by decide +kernel
theorem dX1_begin_25 : decode cX1_begin 25 = .ok (.if_icmp .ne 7, 3) := by decide +kernel
theorem dX1_begin_28 : decode cX1_begin 28 = .ok (.iconst 2, 1) := by decide +kernel
theorem dX1_begin_29 : decode cX1_begin 29 = .ok (.goto 4, 3) := by decide +kernel
theorem dX1_begin_32 : decode cX1_begin 32 = .ok (.iconst 4, 1) := by decide +kernel
theorem dX1_begin_33 : decode cX1_begin 33 = .ok (.putfield 64, 3) := by decide +kernel
theorem dX1_begin_36 : decode cX1_begin 36 = .ok (.aload_n 0, 1) := by decide +kernel
theorem dX1_begin_37 : decode cX1_begin 37 = .ok (.getfield 11, 3) := by decide +kernel
theorem dX1_begin_40 : decode cX1_begin 40 = .ok (.iconst 0, 1) := by decide +kernel
theorem dX1_begin_41 : decode cX1_begin 41 = .ok (.iconst 4, 1) := by decide +kernel
theorem dX1_begin_42 : decode cX1_begin 42 = .ok (.lconst 0, 1) := by decide +kernel
theorem dX1_begin_43 : decode cX1_begin 43 = .ok (.invokestatic 67, 3) := by decide +kernel
theorem dX1_begin_46 : decode cX1_begin 46 = .ok (.aload_n 0, 1) := by decide +kernel
theorem dX1_begin_47 : decode cX1_begin 47 = .ok (.getfield 11, 3) := by decide +kernel
theorem dX1_begin_50 : decode cX1_begin 50 = .ok (.iconst 0, 1) := by decide +kernel
theorem dX1_begin_51 : decode cX1_begin 51 = .ok (.lconst 1, 1) := by decide +kernel
theorem dX1_begin_52 : decode cX1_begin 52 = .ok (.lastore, 1) := by decide +kernel
theorem dX1_begin_53 : decode cX1_begin 53 = .ok (.return_, 1) := by decide +kernel
def bX1_begin_0 (l : Launch) (E : Ev) (d : Nat) (Q : Option Value → Hp → Prop) : Kt := k_aload 0 (k_aload 1 (k_putR 1 7 3 (k_aload 0 (k_aload 1 (k_getI 0 7 1 (k_push (.int 6) (k_icmp_gt (k_aload 1 (k_getI 0 7 1 (k_push (.int 7) (k_icmp_ne (k_push (.int 4) (Go l E YX1_begin (d + 1) 0 0 Q 0 0 33)) (k_push (.int 2) (Go l E YX1_begin (d + 1) 0 0 Q 0 0 33)))))) (k_push (.int 1) (Go l E YX1_begin (d + 1) 0 0 Q 0 0 33)))))))))
set_option maxRecDepth 100000 in
set_option maxHeartbeats 4000000 in
theorem gX1_begin_0 {l : Launch} {E : Ev} {d : Nat} {Q : Option Value → Hp → Prop} {ls : Lv} {st : List Value} {h : Hp} (hB : bX1_begin_0 l E d Q ls st h) : Go l E YX1_begin (d + 1) 0 0 Q 0 0 0 ls st h :=
  (sd_aload_n (i := 0) rfl dX1_begin_0 (sd_aload_n (i := 1) rfl dX1_begin_1 (sd_putR clsX1 (f := 3) (by decide) (fun _ _ _ => rfl) rfl (Or.inl rfl) mw_353 dX1_begin_2 (sd_aload_n (i := 0) rfl dX1_begin_5 (sd_aload_n (i := 1) rfl dX1_begin_6 (sd_getI clsX0 (f := 1) (by decide) (fun _ _ _ => rfl) mw_271 dX1_begin_7 (sd_bipush (v := 6) (by decide) dX1_begin_10 (sd_icmp_gt (tgt := 19) (by decide) dX1_begin_12 (sd_aload_n (i := 1) rfl dX1_begin_19 (sd_getI clsX0 (f := 1) (by decide) (fun _ _ _ => rfl) mw_271 dX1_begin_20 (sd_bipush (v := 7) (by decide) dX1_begin_23 (sd_icmp_ne (tgt := 32) (by decide) dX1_begin_25 (sd_iconst (v := 4) (by decide) dX1_begin_32 (Sd.go)) (sd_iconst (v := 2) (by decide) dX1_begin_28 (sd_goto (tgt := 33) (by decide) dX1_begin_29 (Sd.go))))))) (sd_iconst (v := 1) (by decide) dX1_begin_15 (sd_goto (tgt := 33) (by decide) dX1_begin_16 (Sd.go)))))))))) : Sd l E YX1_begin (d + 1) 0 0 Q 0 0 0 (bX1_begin_0 l E d Q)) ls st h hB
def bX1_begin_33 (l : Launch) (E : Ev) (d : Nat) (Q : Option Value → Hp → Prop) : Kt := k_putI 1 7 4 (k_aload 0 (k_getR 1 7 0 (k_push (.int 0) (k_push (.int 4) (k_push (.long 0) (k_callS l E YJ7_fill_bad5a d 0 0 4 (k_aload 0 (k_getR 1 7 0 (k_push (.int 0) (k_push (.long 1) (k_lastore (k_vret Q))))))))))))
set_option maxRecDepth 100000 in
set_option maxHeartbeats 4000000 in
theorem gX1_begin_33 {l : Launch} {E : Ev} {d : Nat} {Q : Option Value → Hp → Prop} {ls : Lv} {st : List Value} {h : Hp} (hB : bX1_begin_33 l E d Q ls st h) : Go l E YX1_begin (d + 1) 0 0 Q 0 0 33 ls st h :=
  (sd_putI clsX1 (f := 4) (by decide) (fun _ _ _ => rfl) rfl (Or.inl rfl) mw_354 dX1_begin_33 (sd_aload_n (i := 0) rfl dX1_begin_36 (sd_getR clsX1 (f := 0) (by decide) (fun _ _ _ => rfl) mw_350 dX1_begin_37 (sd_iconst (v := 0) (by decide) dX1_begin_40 (sd_iconst (v := 4) (by decide) dX1_begin_41 (sd_lconst (v := 0) (by decide) dX1_begin_42 (sd_callS (Y' := YJ7_fill_bad5a) (mc' := 0) (ms' := 0) (n := 4) mw_864 mw_811 mw_115 mw_812 (okmJ7_fill_bad5a) (by decide) (Nat.le_refl _) (by decide) (by decide) dX1_begin_43 (sd_aload_n (i := 0) rfl dX1_begin_46 (sd_getR clsX1 (f := 0) (by decide) (fun _ _ _ => rfl) mw_350 dX1_begin_47 (sd_iconst (v := 0) (by decide) dX1_begin_50 (sd_lconst (v := 1) (by decide) dX1_begin_51 (sd_lastore dX1_begin_52 (sd_vret rfl (by decide) (by decide) dX1_begin_53)))))))))))) : Sd l E YX1_begin (d + 1) 0 0 Q 0 0 33 (bX1_begin_33 l E d Q)) ls st h hB
theorem eX1_begin {l : Launch} {E : Ev} {d : Nat} {Q : Option Value → Hp → Prop} {h : Hp} {a0 : Nat} {x1 : Nat} (hk : Go l E YX1_begin d 0 0 Q 0 0 0 [some (.ref a0), some (.ref x1)] [] h) : GoM l E YX1_begin d 0 0 [.ref a0, .ref x1] h Q := GoM.of (by decide +kernel) rfl (by simp [entA, YX1_begin]) hk
theorem dX1_fills_0 : decode cX1_fills 0 = .ok (.iconst 1, 1) := by decide +kernel
theorem dX1_fills_1 : decode cX1_fills 1 = .ok (.aload_n 0, 1) := by decide +kernel
theorem dX1_fills_2 : decode cX1_fills 2 = .ok (.getfield 25, 3) := by decide +kernel
theorem dX1_fills_5 : decode cX1_fills 5 = .ok (.getfield 61, 3) := by decide +kernel
theorem dX1_fills_8 : decode cX1_fills 8 = .ok (.ishl, 1) := by decide +kernel
theorem dX1_fills_9 : decode cX1_fills 9 = .ok (.iconst 1, 1) := by decide +kernel
theorem dX1_fills_10 : decode cX1_fills 10 = .ok (.isub, 1) := by decide +kernel
theorem dX1_fills_11 : decode cX1_fills 11 = .ok (.istore_n 2, 1) := by decide +kernel
theorem dX1_fills_12 : decode cX1_fills 12 = .ok (.aload_n 0, 1) := by decide +kernel
theorem dX1_fills_13 : decode cX1_fills 13 = .ok (.getfield 11, 3) := by decide +kernel
theorem dX1_fills_16 : decode cX1_fills 16 = .ok (.iload_n 1, 1) := by decide +kernel
theorem dX1_fills_17 : decode cX1_fills 17 = .ok (.iconst 4, 1) := by decide +kernel
theorem dX1_fills_18 : decode cX1_fills 18 = .ok (.imul, 1) := by decide +kernel
theorem dX1_fills_19 : decode cX1_fills 19 = .ok (.iload_n 2, 1) := by decide +kernel
theorem dX1_fills_20 : decode cX1_fills 20 = .ok (.bipush 6, 2) := by decide +kernel
theorem dX1_fills_22 : decode cX1_fills 22 = .ok (.ishr, 1) := by decide +kernel
theorem dX1_fills_23 : decode cX1_fills 23 = .ok (.iadd, 1) := by decide +kernel
theorem dX1_fills_24 : decode cX1_fills 24 = .ok (.laload, 1) := by decide +kernel
theorem dX1_fills_25 : decode cX1_fills 25 = .ok (.iload_n 2, 1) := by decide +kernel
theorem dX1_fills_26 : decode cX1_fills 26 = .ok (.bipush 63, 2) := by decide +kernel
theorem dX1_fills_28 : decode cX1_fills 28 = .ok (.iand, 1) := by decide +kernel
theorem dX1_fills_29 : decode cX1_fills 29 = .ok (.lushr, 1) := by decide +kernel
theorem dX1_fills_30 : decode cX1_fills 30 = .ok (.lconst 1, 1) := by decide +kernel
theorem dX1_fills_31 : decode cX1_fills 31 = .ok (.land, 1) := by decide +kernel
theorem dX1_fills_32 : decode cX1_fills 32 = .ok (.lconst 1, 1) := by decide +kernel
theorem dX1_fills_33 : decode cX1_fills 33 = .ok (.lcmp, 1) := by decide +kernel
theorem dX1_fills_34 : decode cX1_fills 34 = .ok (.ifCond .ne 7, 3) := by decide +kernel
theorem dX1_fills_37 : decode cX1_fills 37 = .ok (.iconst 1, 1) := by decide +kernel
theorem dX1_fills_38 : decode cX1_fills 38 = .ok (.goto 4, 3) := by decide +kernel
theorem dX1_fills_41 : decode cX1_fills 41 = .ok (.iconst 0, 1) := by decide +kernel
theorem dX1_fills_42 : decode cX1_fills 42 = .ok (.ireturn, 1) := by decide +kernel
def bX1_fills_0 (l : Launch) (E : Ev) (d : Nat) (Q : Option Value → Hp → Prop) : Kt := k_push (.int 1) (k_aload 0 (k_getR 1 7 3 (k_getI 0 7 1 (k_ishl (k_push (.int 1) (k_isub (k_istore 2 (k_aload 0 (k_getR 1 7 0 (k_iload 1 (k_push (.int 4) (k_imul (k_iload 2 (k_push (.int 6) (k_ishr (k_iadd (k_laload (k_iload 2 (k_push (.int 63) (k_iand (k_lushr (k_push (.long 1) (k_land (k_push (.long 1) (k_lcmp (k_if_ne (k_push (.int 0) (k_iret .boolean Q)) (k_push (.int 1) (k_iret .boolean Q))))))))))))))))))))))))))))
set_option maxRecDepth 100000 in
set_option maxHeartbeats 4000000 in
theorem gX1_fills_0 {l : Launch} {E : Ev} {d : Nat} {Q : Option Value → Hp → Prop} {ls : Lv} {st : List Value} {h : Hp} (hB : bX1_fills_0 l E d Q ls st h) : Go l E YX1_fills (d + 1) 0 0 Q 0 0 0 ls st h :=
  (sd_iconst (v := 1) (by decide) dX1_fills_0 (sd_aload_n (i := 0) rfl dX1_fills_1 (sd_getR clsX1 (f := 3) (by decide) (fun _ _ _ => rfl) mw_353 dX1_fills_2 (sd_getI clsX0 (f := 1) (by decide) (fun _ _ _ => rfl) mw_271 dX1_fills_5 (sd_ishl dX1_fills_8 (sd_iconst (v := 1) (by decide) dX1_fills_9 (sd_isub dX1_fills_10 (sd_istore_n (i := 2) rfl (by decide) dX1_fills_11 (sd_aload_n (i := 0) rfl dX1_fills_12 (sd_getR clsX1 (f := 0) (by decide) (fun _ _ _ => rfl) mw_350 dX1_fills_13 (sd_iload_n (i := 1) rfl dX1_fills_16 (sd_iconst (v := 4) (by decide) dX1_fills_17 (sd_imul dX1_fills_18 (sd_iload_n (i := 2) rfl dX1_fills_19 (sd_bipush (v := 6) (by decide) dX1_fills_20 (sd_ishr dX1_fills_22 (sd_iadd dX1_fills_23 (sd_laload dX1_fills_24 (sd_iload_n (i := 2) rfl dX1_fills_25 (sd_bipush (v := 63) (by decide) dX1_fills_26 (sd_iand dX1_fills_28 (sd_lushr dX1_fills_29 (sd_lconst (v := 1) (by decide) dX1_fills_30 (sd_land dX1_fills_31 (sd_lconst (v := 1) (by decide) dX1_fills_32 (sd_lcmp dX1_fills_33 (sd_if_ne (tgt := 41) (by decide) dX1_fills_34 (sd_iconst (v := 0) (by decide) dX1_fills_41 (sd_iret (ty := .boolean) rfl (by decide) (by decide) dX1_fills_42)) (sd_iconst (v := 1) (by decide) dX1_fills_37 (sd_goto (tgt := 42) (by decide) dX1_fills_38 (sd_iret (ty := .boolean) rfl (by decide) (by decide) dX1_fills_42))))))))))))))))))))))))))))) : Sd l E YX1_fills (d + 1) 0 0 Q 0 0 0 (bX1_fills_0 l E d Q)) ls st h hB
theorem eX1_fills {l : Launch} {E : Ev} {d : Nat} {Q : Option Value → Hp → Prop} {h : Hp} {a0 : Nat} {x1 : Int32} (hk : Go l E YX1_fills d 0 0 Q 0 0 0 [some (.ref a0), some (.int x1), none] [] h) : GoM l E YX1_fills d 0 0 [.ref a0, .int x1] h Q := GoM.of (by decide +kernel) rfl (by simp [entA, YX1_fills]) hk
theorem dX1_rest_0 : decode cX1_rest 0 = .ok (.aload_n 0, 1) := by decide +kernel
theorem dX1_rest_1 : decode cX1_rest 1 = .ok (.getfield 11, 3) := by decide +kernel
theorem dX1_rest_4 : decode cX1_rest 4 = .ok (.iload_n 1, 1) := by decide +kernel
theorem dX1_rest_5 : decode cX1_rest 5 = .ok (.iconst 4, 1) := by decide +kernel
theorem dX1_rest_6 : decode cX1_rest 6 = .ok (.imul, 1) := by decide +kernel
theorem dX1_rest_7 : decode cX1_rest 7 = .ok (.aload_n 0, 1) := by decide +kernel
theorem dX1_rest_8 : decode cX1_rest 8 = .ok (.getfield 11, 3) := by decide +kernel
theorem dX1_rest_11 : decode cX1_rest 11 = .ok (.iload_n 1, 1) := by decide +kernel
theorem dX1_rest_12 : decode cX1_rest 12 = .ok (.iconst 1, 1) := by decide +kernel
theorem dX1_rest_13 : decode cX1_rest 13 = .ok (.iadd, 1) := by decide +kernel
theorem dX1_rest_14 : decode cX1_rest 14 = .ok (.iconst 4, 1) := by decide +kernel
theorem dX1_rest_15 : decode cX1_rest 15 = .ok (.imul, 1) := by decide +kernel
theorem dX1_rest_16 : decode cX1_rest 16 = .ok (.aload_n 0, 1) := by decide +kernel
theorem dX1_rest_17 : decode cX1_rest 17 = .ok (.getfield 64, 3) := by decide +kernel
theorem dX1_rest_20 : decode cX1_rest 20 = .ok (.invokestatic 73, 3) := by decide +kernel
theorem dX1_rest_23 : decode cX1_rest 23 = .ok (.return_, 1) := by decide +kernel
def bX1_rest_0 (l : Launch) (E : Ev) (d : Nat) (Q : Option Value → Hp → Prop) : Kt := k_aload 0 (k_getR 1 7 0 (k_iload 1 (k_push (.int 4) (k_imul (k_aload 0 (k_getR 1 7 0 (k_iload 1 (k_push (.int 1) (k_iadd (k_push (.int 4) (k_imul (k_aload 0 (k_getI 1 7 4 (k_copyJ (k_vret Q)))))))))))))))
set_option maxRecDepth 100000 in
set_option maxHeartbeats 4000000 in
theorem gX1_rest_0 {l : Launch} {E : Ev} {d : Nat} {Q : Option Value → Hp → Prop} {ls : Lv} {st : List Value} {h : Hp} (hB : bX1_rest_0 l E d Q ls st h) : Go l E YX1_rest (d + 1) 0 0 Q 0 0 0 ls st h :=
  (sd_aload_n (i := 0) rfl dX1_rest_0 (sd_getR clsX1 (f := 0) (by decide) (fun _ _ _ => rfl) mw_350 dX1_rest_1 (sd_iload_n (i := 1) rfl dX1_rest_4 (sd_iconst (v := 4) (by decide) dX1_rest_5 (sd_imul dX1_rest_6 (sd_aload_n (i := 0) rfl dX1_rest_7 (sd_getR clsX1 (f := 0) (by decide) (fun _ _ _ => rfl) mw_350 dX1_rest_8 (sd_iload_n (i := 1) rfl dX1_rest_11 (sd_iconst (v := 1) (by decide) dX1_rest_12 (sd_iadd dX1_rest_13 (sd_iconst (v := 4) (by decide) dX1_rest_14 (sd_imul dX1_rest_15 (sd_aload_n (i := 0) rfl dX1_rest_16 (sd_getI clsX1 (f := 4) (by decide) (fun _ _ _ => rfl) mw_354 dX1_rest_17 (sd_copyJ mw_877 mw_744 mw_743 mw_116 (by omega) dX1_rest_20 (sd_vret rfl (by decide) (by decide) dX1_rest_23))))))))))))))) : Sd l E YX1_rest (d + 1) 0 0 Q 0 0 0 (bX1_rest_0 l E d Q)) ls st h hB
theorem eX1_rest {l : Launch} {E : Ev} {d : Nat} {Q : Option Value → Hp → Prop} {h : Hp} {a0 : Nat} {x1 : Int32} (hk : Go l E YX1_rest d 0 0 Q 0 0 0 [some (.ref a0), some (.int x1)] [] h) : GoM l E YX1_rest d 0 0 [.ref a0, .int x1] h Q := GoM.of (by decide +kernel) rfl (by simp [entA, YX1_rest]) hk
theorem dX1_play_0 : decode cX1_play 0 = .ok (.aload_n 0, 1) := by decide +kernel
theorem dX1_play_1 : decode cX1_play 1 = .ok (.getfield 25, 3) := by decide +kernel
theorem dX1_play_4 : decode cX1_play 4 = .ok (.getfield 79, 3) := by decide +kernel
theorem dX1_play_7 : decode cX1_play 7 = .ok (.iload_n 1, 1) := by decide +kernel
theorem dX1_play_8 : decode cX1_play 8 = .ok (.iaload, 1) := by decide +kernel
theorem dX1_play_9 : decode cX1_play 9 = .ok (.istore_n 2, 1) := by decide +kernel
theorem dX1_play_10 : decode cX1_play 10 = .ok (.iconst 0, 1) := by decide +kernel
theorem dX1_play_11 : decode cX1_play 11 = .ok (.istore_n 3, 1) := by decide +kernel
theorem dX1_play_12 : decode cX1_play 12 = .ok (.iload_n 3, 1) := by decide +kernel
theorem dX1_play_13 : decode cX1_play 13 = .ok (.aload_n 0, 1) := by decide +kernel
theorem dX1_play_14 : decode cX1_play 14 = .ok (.getfield 25, 3) := by decide +kernel
theorem dX1_play_17 : decode cX1_play 17 = .ok (.getfield 61, 3) := by decide +kernel
theorem dX1_play_20 : decode cX1_play 20 = .ok (.if_icmp .ge 113, 3) := by decide +kernel
theorem dX1_play_23 : decode cX1_play 23 = .ok (.iload_n 2, 1) := by decide +kernel
theorem dX1_play_24 : decode cX1_play 24 = .ok (.iload_n 3, 1) := by decide +kernel
theorem dX1_play_25 : decode cX1_play 25 = .ok (.ishr, 1) := by decide +kernel
theorem dX1_play_26 : decode cX1_play 26 = .ok (.iconst 1, 1) := by decide +kernel
theorem dX1_play_27 : decode cX1_play 27 = .ok (.iand, 1) := by decide +kernel
theorem dX1_play_28 : decode cX1_play 28 = .ok (.iconst 1, 1) := by decide +kernel
theorem dX1_play_29 : decode cX1_play 29 = .ok (.if_icmp .ne 98, 3) := by decide +kernel
theorem dX1_play_32 : decode cX1_play 32 = .ok (.aload_n 0, 1) := by decide +kernel
theorem dX1_play_33 : decode cX1_play 33 = .ok (.aload_n 0, 1) := by decide +kernel
theorem dX1_play_34 : decode cX1_play 34 = .ok (.getfield 11, 3) := by decide +kernel
theorem dX1_play_37 : decode cX1_play 37 = .ok (.iload_n 1, 1) := by decide +kernel
theorem dX1_play_38 : decode cX1_play 38 = .ok (.iconst 4, 1) := by decide +kernel
theorem dX1_play_39 : decode cX1_play 39 = .ok (.imul, 1) := by decide +kernel
theorem dX1_play_40 : decode cX1_play 40 = .ok (.iload_n 3, 1) := by decide +kernel
theorem dX1_play_41 : decode cX1_play 41 = .ok (.aload_n 0, 1) := by decide +kernel
theorem dX1_play_42 : decode cX1_play 42 = .ok (.getfield 15, 3) := by decide +kernel
theorem dX1_play_45 : decode cX1_play 45 = .ok (.invokevirtual 83, 3) := by decide +kernel
theorem dX1_play_48 : decode cX1_play 48 = .ok (.aload_n 0, 1) := by decide +kernel
theorem dX1_play_49 : decode cX1_play 49 = .ok (.iload_n 1, 1) := by decide +kernel
theorem dX1_play_50 : decode cX1_play 50 = .ok (.iconst 1, 1) := by decide +kernel
theorem dX1_play_51 : decode cX1_play 51 = .ok (.iadd, 1) := by decide +kernel
theorem dX1_play_52 : decode cX1_play 52 = .ok (.aload_n 0, 1) := by decide +kernel
theorem dX1_play_53 : decode cX1_play 53 = .ok (.getfield 15, 3) := by decide +kernel
theorem dX1_play_56 : decode cX1_play 56 = .ok (.invokevirtual 87, 3) := by decide +kernel
theorem dX1_play_59 : decode cX1_play 59 = .ok (.iload_n 3, 1) := by decide +kernel
theorem dX1_play_60 : decode cX1_play 60 = .ok (.iconst 1, 1) := by decide +kernel
theorem dX1_play_61 : decode cX1_play 61 = .ok (.iadd, 1) := by decide +kernel
theorem dX1_play_62 : decode cX1_play 62 = .ok (.istore 4, 2) := by decide +kernel
theorem dX1_play_64 : decode cX1_play 64 = .ok (.iload 4, 2) := by decide +kernel
theorem dX1_play_66 : decode cX1_play 66 = .ok (.aload_n 0, 1) := by decide +kernel
theorem dX1_play_67 : decode cX1_play 67 = .ok (.getfield 25, 3) := by decide +kernel
theorem dX1_play_70 : decode cX1_play 70 = .ok (.getfield 61, 3) := by decide +kernel
theorem dX1_play_73 : decode cX1_play 73 = .ok (.if_icmp .ge 54, 3) := by decide +kernel
theorem dX1_play_76 : decode cX1_play 76 = .ok (.iload_n 2, 1) := by decide +kernel
theorem dX1_play_77 : decode cX1_play 77 = .ok (.aload_n 0, 1) := by decide +kernel
theorem dX1_play_78 : decode cX1_play 78 = .ok (.getfield 25, 3) := by decide +kernel
theorem dX1_play_81 : decode cX1_play 81 = .ok (.getfield 91, 3) := by decide +kernel
theorem dX1_play_84 : decode cX1_play 84 = .ok (.iload_n 3, 1) := by decide +kernel
theorem dX1_play_85 : decode cX1_play 85 = .ok (.iaload, 1) := by decide +kernel
theorem dX1_play_86 : decode cX1_play 86 = .ok (.iand, 1) := by decide +kernel
theorem dX1_play_87 : decode cX1_play 87 = .ok (.iconst 1, 1) := by decide +kernel
theorem dX1_play_88 : decode cX1_play 88 = .ok (.iload 4, 2) := by decide +kernel
theorem dX1_play_90 : decode cX1_play 90 = .ok (.ishl, 1) := by decide +kernel
theorem dX1_play_91 : decode cX1_play 91 = .ok (.iand, 1) := by decide +kernel
theorem dX1_play_92 : decode cX1_play 92 = .ok (.ifCond .eq 29, 3) := by decide +kernel
theorem dX1_play_95 : decode cX1_play 95 = .ok (.aload_n 0, 1) := by decide +kernel
theorem dX1_play_96 : decode cX1_play 96 = .ok (.aload_n 0, 1) := by decide +kernel
theorem dX1_play_97 : decode cX1_play 97 = .ok (.getfield 15, 3) := by decide +kernel
theorem dX1_play_100 : decode cX1_play 100 = .ok (.iconst 0, 1) := by decide +kernel
theorem dX1_play_101 : decode cX1_play 101 = .ok (.iload 4, 2) := by decide +kernel
theorem dX1_play_103 : decode cX1_play 103 = .ok (.aload_n 0, 1) := by decide +kernel
theorem dX1_play_104 : decode cX1_play 104 = .ok (.getfield 18, 3) := by decide +kernel
theorem dX1_play_107 : decode cX1_play 107 = .ok (.invokevirtual 83, 3) := by decide +kernel
theorem dX1_play_110 : decode cX1_play 110 = .ok (.aload_n 0, 1) := by decide +kernel
theorem dX1_play_111 : decode cX1_play 111 = .ok (.iload_n 1, 1) := by decide +kernel
theorem dX1_play_112 : decode cX1_play 112 = .ok (.iconst 1, 1) := by decide +kernel
theorem dX1_play_113 : decode cX1_play 113 = .ok (.iadd, 1) := by decide +kernel
theorem dX1_play_114 : decode cX1_play 114 = .ok (.aload_n 0, 1) := by decide +kernel
theorem dX1_play_115 : decode cX1_play 115 = .ok (.getfield 18, 3) := by decide +kernel
theorem dX1_play_118 : decode cX1_play 118 = .ok (.invokevirtual 87, 3) := by decide +kernel
theorem dX1_play_121 : decode cX1_play 121 = .ok (.iinc 4 1, 3) := by decide +kernel
theorem dX1_play_124 : decode cX1_play 124 = .ok (.goto (-60), 3) := by decide +kernel
theorem dX1_play_127 : decode cX1_play 127 = .ok (.iinc 3 1, 3) := by decide +kernel
theorem dX1_play_130 : decode cX1_play 130 = .ok (.goto (-118), 3) := by decide +kernel
theorem dX1_play_133 : decode cX1_play 133 = .ok (.return_, 1) := by decide +kernel
def bX1_play_0 (l : Launch) (E : Ev) (d : Nat) (Q : Option Value → Hp → Prop) : Kt := k_aload 0 (k_getR 1 7 3 (k_getR 0 7 2 (k_iload 1 (k_iaload (k_istore 2 (k_push (.int 0) (k_istore 3 (Go l E YX1_play (d + 1) 0 0 Q 0 0 12))))))))
set_option maxRecDepth 100000 in
set_option maxHeartbeats 4000000 in
theorem gX1_play_0 {l : Launch} {E : Ev} {d : Nat} {Q : Option Value → Hp → Prop} {ls : Lv} {st : List Value} {h : Hp} (hB : bX1_play_0 l E d Q ls st h) : Go l E YX1_play (d + 1) 0 0 Q 0 0 0 ls st h :=
  (sd_aload_n (i := 0) rfl dX1_play_0 (sd_getR clsX1 (f := 3) (by decide) (fun _ _ _ => rfl) mw_353 dX1_play_1 (sd_getR clsX0 (f := 2) (by decide) (fun _ _ _ => rfl) mw_275 dX1_play_4 (sd_iload_n (i := 1) rfl dX1_play_7 (sd_iaload dX1_play_8 (sd_istore_n (i := 2) rfl (by decide) dX1_play_9 (sd_iconst (v := 0) (by decide) dX1_play_10 (sd_istore_n (i := 3) rfl (by decide) dX1_play_11 (Sd.go)))))))) : Sd l E YX1_play (d + 1) 0 0 Q 0 0 0 (bX1_play_0 l E d Q)) ls st h hB
def bX1_play_12 (l : Launch) (E : Ev) (d : Nat) (Q : Option Value → Hp → Prop) : Kt := k_iload 3 (k_aload 0 (k_getR 1 7 3 (k_getI 0 7 1 (k_icmp_ge (k_vret Q) (k_iload 2 (k_iload 3 (k_ishr (k_push (.int 1) (k_iand (k_push (.int 1) (k_icmp_ne (k_iinc 3 1 (Go l E YX1_play (d + 1) 0 0 Q 0 0 12)) (k_aload 0 (k_aload 0 (k_getR 1 7 0 (k_iload 1 (k_push (.int 4) (k_imul (k_iload 3 (k_aload 0 (k_getR 1 7 1 (k_callV l E 1 7 YX1_give d 0 0 4 (k_aload 0 (k_iload 1 (k_push (.int 1) (k_iadd (k_aload 0 (k_getR 1 7 1 (k_callV l E 1 7 YX1_join d 0 0 2 (k_iload 3 (k_push (.int 1) (k_iadd (k_istore 4 (Go l E YX1_play (d + 1) 0 0 Q 0 0 64)))))))))))))))))))))))))))))))))
set_option maxRecDepth 100000 in
set_option maxHeartbeats 4000000 in
theorem gX1_play_12 {l : Launch} {E : Ev} {d : Nat} {Q : Option Value → Hp → Prop} {ls : Lv} {st : List Value} {h : Hp} (hB : bX1_play_12 l E d Q ls st h) : Go l E YX1_play (d + 1) 0 0 Q 0 0 12 ls st h :=
  (sd_iload_n (i := 3) rfl dX1_play_12 (sd_aload_n (i := 0) rfl dX1_play_13 (sd_getR clsX1 (f := 3) (by decide) (fun _ _ _ => rfl) mw_353 dX1_play_14 (sd_getI clsX0 (f := 1) (by decide) (fun _ _ _ => rfl) mw_271 dX1_play_17 (sd_icmp_ge (tgt := 133) (by decide) dX1_play_20 (sd_vret rfl (by decide) (by decide) dX1_play_133) (sd_iload_n (i := 2) rfl dX1_play_23 (sd_iload_n (i := 3) rfl dX1_play_24 (sd_ishr dX1_play_25 (sd_iconst (v := 1) (by decide) dX1_play_26 (sd_iand dX1_play_27 (sd_iconst (v := 1) (by decide) dX1_play_28 (sd_icmp_ne (tgt := 127) (by decide) dX1_play_29 (sd_iinc (i := 3) (v := 1) (by decide) (by decide) dX1_play_127 (sd_goto (tgt := 12) (by decide) dX1_play_130 (Sd.go))) (sd_aload_n (i := 0) rfl dX1_play_32 (sd_aload_n (i := 0) rfl dX1_play_33 (sd_getR clsX1 (f := 0) (by decide) (fun _ _ _ => rfl) mw_350 dX1_play_34 (sd_iload_n (i := 1) rfl dX1_play_37 (sd_iconst (v := 4) (by decide) dX1_play_38 (sd_imul dX1_play_39 (sd_iload_n (i := 3) rfl dX1_play_40 (sd_aload_n (i := 0) rfl dX1_play_41 (sd_getR clsX1 (f := 1) (by decide) (fun _ _ _ => rfl) mw_351 dX1_play_42 (sd_callV (Y' := YX1_give) (mc' := 0) (ms' := 0) (n := 4) clsX1.1 mw_882 mw_884 mw_30 mw_105 mw_885 rfl (okmX1_give) (by decide) (Nat.le_refl _) (by decide) (by decide) dX1_play_45 (sd_aload_n (i := 0) rfl dX1_play_48 (sd_iload_n (i := 1) rfl dX1_play_49 (sd_iconst (v := 1) (by decide) dX1_play_50 (sd_iadd dX1_play_51 (sd_aload_n (i := 0) rfl dX1_play_52 (sd_getR clsX1 (f := 1) (by decide) (fun _ _ _ => rfl) mw_351 dX1_play_53 (sd_callV (Y' := YX1_join) (mc' := 0) (ms' := 0) (n := 2) clsX1.1 mw_888 mw_890 mw_31 mw_105 mw_891 rfl (okmX1_join) (by decide) (Nat.le_refl _) (by decide) (by decide) dX1_play_56 (sd_iload_n (i := 3) rfl dX1_play_59 (sd_iconst (v := 1) (by decide) dX1_play_60 (sd_iadd dX1_play_61 (sd_istore (i := 4) (by decide) dX1_play_62 (Sd.go))))))))))))))))))))))))))))))))) : Sd l E YX1_play (d + 1) 0 0 Q 0 0 12 (bX1_play_12 l E d Q)) ls st h hB
def bX1_play_64 (l : Launch) (E : Ev) (d : Nat) (Q : Option Value → Hp → Prop) : Kt := k_iload 4 (k_aload 0 (k_getR 1 7 3 (k_getI 0 7 1 (k_icmp_ge (k_iinc 3 1 (Go l E YX1_play (d + 1) 0 0 Q 0 0 12)) (k_iload 2 (k_aload 0 (k_getR 1 7 3 (k_getR 0 7 4 (k_iload 3 (k_iaload (k_iand (k_push (.int 1) (k_iload 4 (k_ishl (k_iand (k_if_eq (k_iinc 4 1 (Go l E YX1_play (d + 1) 0 0 Q 0 0 64)) (k_aload 0 (k_aload 0 (k_getR 1 7 1 (k_push (.int 0) (k_iload 4 (k_aload 0 (k_getR 1 7 2 (k_callV l E 1 7 YX1_give d 0 0 4 (k_aload 0 (k_iload 1 (k_push (.int 1) (k_iadd (k_aload 0 (k_getR 1 7 2 (k_callV l E 1 7 YX1_join d 0 0 2 (k_iinc 4 1 (Go l E YX1_play (d + 1) 0 0 Q 0 0 64)))))))))))))))))))))))))))))))))
set_option maxRecDepth 100000 in
set_option maxHeartbeats 4000000 in
theorem gX1_play_64 {l : Launch} {E : Ev} {d : Nat} {Q : Option Value → Hp → Prop} {ls : Lv} {st : List Value} {h : Hp} (hB : bX1_play_64 l E d Q ls st h) : Go l E YX1_play (d + 1) 0 0 Q 0 0 64 ls st h :=
  (sd_iload (n := 4) dX1_play_64 (sd_aload_n (i := 0) rfl dX1_play_66 (sd_getR clsX1 (f := 3) (by decide) (fun _ _ _ => rfl) mw_353 dX1_play_67 (sd_getI clsX0 (f := 1) (by decide) (fun _ _ _ => rfl) mw_271 dX1_play_70 (sd_icmp_ge (tgt := 127) (by decide) dX1_play_73 (sd_iinc (i := 3) (v := 1) (by decide) (by decide) dX1_play_127 (sd_goto (tgt := 12) (by decide) dX1_play_130 (Sd.go))) (sd_iload_n (i := 2) rfl dX1_play_76 (sd_aload_n (i := 0) rfl dX1_play_77 (sd_getR clsX1 (f := 3) (by decide) (fun _ _ _ => rfl) mw_353 dX1_play_78 (sd_getR clsX0 (f := 4) (by decide) (fun _ _ _ => rfl) mw_282 dX1_play_81 (sd_iload_n (i := 3) rfl dX1_play_84 (sd_iaload dX1_play_85 (sd_iand dX1_play_86 (sd_iconst (v := 1) (by decide) dX1_play_87 (sd_iload (n := 4) dX1_play_88 (sd_ishl dX1_play_90 (sd_iand dX1_play_91 (sd_if_eq (tgt := 121) (by decide) dX1_play_92 (sd_iinc (i := 4) (v := 1) (by decide) (by decide) dX1_play_121 (sd_goto (tgt := 64) (by decide) dX1_play_124 (Sd.go))) (sd_aload_n (i := 0) rfl dX1_play_95 (sd_aload_n (i := 0) rfl dX1_play_96 (sd_getR clsX1 (f := 1) (by decide) (fun _ _ _ => rfl) mw_351 dX1_play_97 (sd_iconst (v := 0) (by decide) dX1_play_100 (sd_iload (n := 4) dX1_play_101 (sd_aload_n (i := 0) rfl dX1_play_103 (sd_getR clsX1 (f := 2) (by decide) (fun _ _ _ => rfl) mw_352 dX1_play_104 (sd_callV (Y' := YX1_give) (mc' := 0) (ms' := 0) (n := 4) clsX1.1 mw_882 mw_884 mw_30 mw_105 mw_885 rfl (okmX1_give) (by decide) (Nat.le_refl _) (by decide) (by decide) dX1_play_107 (sd_aload_n (i := 0) rfl dX1_play_110 (sd_iload_n (i := 1) rfl dX1_play_111 (sd_iconst (v := 1) (by decide) dX1_play_112 (sd_iadd dX1_play_113 (sd_aload_n (i := 0) rfl dX1_play_114 (sd_getR clsX1 (f := 2) (by decide) (fun _ _ _ => rfl) mw_352 dX1_play_115 (sd_callV (Y' := YX1_join) (mc' := 0) (ms' := 0) (n := 2) clsX1.1 mw_888 mw_890 mw_31 mw_105 mw_891 rfl (okmX1_join) (by decide) (Nat.le_refl _) (by decide) (by decide) dX1_play_118 (sd_iinc (i := 4) (v := 1) (by decide) (by decide) dX1_play_121 (sd_goto (tgt := 64) (by decide) dX1_play_124 (Sd.go)))))))))))))))))))))))))))))))))) : Sd l E YX1_play (d + 1) 0 0 Q 0 0 64 (bX1_play_64 l E d Q)) ls st h hB
theorem eX1_play {l : Launch} {E : Ev} {d : Nat} {Q : Option Value → Hp → Prop} {h : Hp} {a0 : Nat} {x1 : Int32} (hk : Go l E YX1_play d 0 0 Q 0 0 0 [some (.ref a0), some (.int x1), none, none, none] [] h) : GoM l E YX1_play d 0 0 [.ref a0, .int x1] h Q := GoM.of (by decide +kernel) rfl (by simp [entA, YX1_play]) hk
theorem dX1_give_0 : decode cX1_give 0 = .ok (.iconst 0, 1) := by decide +kernel
theorem dX1_give_1 : decode cX1_give 1 = .ok (.istore 5, 2) := by decide +kernel
theorem dX1_give_3 : decode cX1_give 3 = .ok (.iload 5, 2) := by decide +kernel
theorem dX1_give_5 : decode cX1_give 5 = .ok (.aload_n 0, 1) := by decide +kernel
theorem dX1_give_6 : decode cX1_give 6 = .ok (.getfield 64, 3) := by decide +kernel
theorem dX1_give_9 : decode cX1_give 9 = .ok (.if_icmp .ge 77, 3) := by decide +kernel
theorem dX1_give_12 : decode cX1_give 12 = .ok (.iload_n 3, 1) := by decide +kernel
theorem dX1_give_13 : decode cX1_give 13 = .ok (.getstatic 94, 3) := by decide +kernel
theorem dX1_give_16 : decode cX1_give 16 = .ok (.arraylength, 1) := by decide +kernel
theorem dX1_give_17 : decode cX1_give 17 = .ok (.if_icmp .ge 27, 3) := by decide +kernel
theorem dX1_give_20 : decode cX1_give 20 = .ok (.aload 4, 2) := by decide +kernel
theorem dX1_give_22 : decode cX1_give 22 = .ok (.iload 5, 2) := by decide +kernel
theorem dX1_give_24 : decode cX1_give 24 = .ok (.aload_n 1, 1) := by decide +kernel
theorem dX1_give_25 : decode cX1_give 25 = .ok (.iload_n 2, 1) := by decide +kernel
theorem dX1_give_26 : decode cX1_give 26 = .ok (.iload 5, 2) := by decide +kernel
theorem dX1_give_28 : decode cX1_give 28 = .ok (.iadd, 1) := by decide +kernel
theorem dX1_give_29 : decode cX1_give 29 = .ok (.laload, 1) := by decide +kernel
theorem dX1_give_30 : decode cX1_give 30 = .ok (.getstatic 94, 3) := by decide +kernel
theorem dX1_give_33 : decode cX1_give 33 = .ok (.iload_n 3, 1) := by decide +kernel
theorem dX1_give_34 : decode cX1_give 34 = .ok (.laload, 1) := by decide +kernel
theorem dX1_give_35 : decode cX1_give 35 = .ok (.land, 1) := by decide +kernel
theorem dX1_give_36 : decode cX1_give 36 = .ok (.iconst 1, 1) := by decide +kernel
theorem dX1_give_37 : decode cX1_give 37 = .ok (.iload_n 3, 1) := by decide +kernel
theorem dX1_give_38 : decode cX1_give 38 = .ok (.ishl, 1) := by decide +kernel
theorem dX1_give_39 : decode cX1_give 39 = .ok (.lshl, 1) := by decide +kernel
theorem dX1_give_40 : decode cX1_give 40 = .ok (.lastore, 1) := by decide +kernel
theorem dX1_give_41 : decode cX1_give 41 = .ok (.goto 39, 3) := by decide +kernel
theorem dX1_give_44 : decode cX1_give 44 = .ok (.iconst 1, 1) := by decide +kernel
theorem dX1_give_45 : decode cX1_give 45 = .ok (.iload_n 3, 1) := by decide +kernel
theorem dX1_give_46 : decode cX1_give 46 = .ok (.getstatic 94, 3) := by decide +kernel
theorem dX1_give_49 : decode cX1_give 49 = .ok (.arraylength, 1) := by decide +kernel
theorem dX1_give_50 : decode cX1_give 50 = .ok (.isub, 1) := by decide +kernel
theorem dX1_give_51 : decode cX1_give 51 = .ok (.ishl, 1) := by decide +kernel
theorem dX1_give_52 : decode cX1_give 52 = .ok (.istore 6, 2) := by decide +kernel
theorem dX1_give_54 : decode cX1_give 54 = .ok (.aload 4, 2) := by decide +kernel
theorem dX1_give_56 : decode cX1_give 56 = .ok (.iload 5, 2) := by decide +kernel
theorem dX1_give_58 : decode cX1_give 58 = .ok (.iload 5, 2) := by decide +kernel
theorem dX1_give_60 : decode cX1_give 60 = .ok (.iload 6, 2) := by decide +kernel
theorem dX1_give_62 : decode cX1_give 62 = .ok (.iand, 1) := by decide +kernel
theorem dX1_give_63 : decode cX1_give 63 = .ok (.ifCond .eq 15, 3) := by decide +kernel
theorem dX1_give_66 : decode cX1_give 66 = .ok (.aload_n 1, 1) := by decide +kernel
theorem dX1_give_67 : decode cX1_give 67 = .ok (.iload_n 2, 1) := by decide +kernel
theorem dX1_give_68 : decode cX1_give 68 = .ok (.iload 5, 2) := by decide +kernel
theorem dX1_give_70 : decode cX1_give 70 = .ok (.iload 6, 2) := by decide +kernel
theorem dX1_give_72 : decode cX1_give 72 = .ok (.ixor, 1) := by decide +kernel
theorem dX1_give_73 : decode cX1_give 73 = .ok (.iadd, 1) := by decide +kernel
theorem dX1_give_74 : decode cX1_give 74 = .ok (.laload, 1) := by decide +kernel
theorem dX1_give_75 : decode cX1_give 75 = .ok (.goto 4, 3) := by decide +kernel
theorem dX1_give_78 : decode cX1_give 78 = .ok (.lconst 0, 1) := by decide +kernel
theorem dX1_give_79 : decode cX1_give 79 = .ok (.lastore, 1) := by decide +kernel
theorem dX1_give_80 : decode cX1_give 80 = .ok (.iinc 5 1, 3) := by decide +kernel
theorem dX1_give_83 : decode cX1_give 83 = .ok (.goto (-80), 3) := by decide +kernel
theorem dX1_give_86 : decode cX1_give 86 = .ok (.return_, 1) := by decide +kernel
def bX1_give_0 (l : Launch) (E : Ev) (d : Nat) (Q : Option Value → Hp → Prop) : Kt := k_push (.int 0) (k_istore 5 (Go l E YX1_give (d + 1) 0 0 Q 0 0 3))
set_option maxRecDepth 100000 in
set_option maxHeartbeats 4000000 in
theorem gX1_give_0 {l : Launch} {E : Ev} {d : Nat} {Q : Option Value → Hp → Prop} {ls : Lv} {st : List Value} {h : Hp} (hB : bX1_give_0 l E d Q ls st h) : Go l E YX1_give (d + 1) 0 0 Q 0 0 0 ls st h :=
  (sd_iconst (v := 0) (by decide) dX1_give_0 (sd_istore (i := 5) (by decide) dX1_give_1 (Sd.go)) : Sd l E YX1_give (d + 1) 0 0 Q 0 0 0 (bX1_give_0 l E d Q)) ls st h hB
def bX1_give_3 (l : Launch) (E : Ev) (d : Nat) (Q : Option Value → Hp → Prop) : Kt := k_iload 5 (k_aload 0 (k_getI 1 7 4 (k_icmp_ge (k_vret Q) (k_iload 3 (k_gets 4 (k_alen (k_icmp_ge (k_push (.int 1) (k_iload 3 (k_gets 4 (k_alen (k_isub (k_ishl (k_istore 6 (k_aload 4 (k_iload 5 (k_iload 5 (k_iload 6 (k_iand (k_if_eq (k_push (.long 0) (k_lastore (k_iinc 5 1 (Go l E YX1_give (d + 1) 0 0 Q 0 0 3)))) (k_aload 1 (k_iload 2 (k_iload 5 (k_iload 6 (k_ixor (k_iadd (k_laload (k_lastore (k_iinc 5 1 (Go l E YX1_give (d + 1) 0 0 Q 0 0 3))))))))))))))))))))))) (k_aload 4 (k_iload 5 (k_aload 1 (k_iload 2 (k_iload 5 (k_iadd (k_laload (k_gets 4 (k_iload 3 (k_laload (k_land (k_push (.int 1) (k_iload 3 (k_ishl (k_lshl (k_lastore (k_iinc 5 1 (Go l E YX1_give (d + 1) 0 0 Q 0 0 3)))))))))))))))))))))))))
set_option maxRecDepth 100000 in
set_option maxHeartbeats 4000000 in
theorem gX1_give_3 {l : Launch} {E : Ev} {d : Nat} {Q : Option Value → Hp → Prop} {ls : Lv} {st : List Value} {h : Hp} (hB : bX1_give_3 l E d Q ls st h) : Go l E YX1_give (d + 1) 0 0 Q 0 0 3 ls st h :=
  (sd_iload (n := 5) dX1_give_3 (sd_aload_n (i := 0) rfl dX1_give_5 (sd_getI clsX1 (f := 4) (by decide) (fun _ _ _ => rfl) mw_354 dX1_give_6 (sd_icmp_ge (tgt := 86) (by decide) dX1_give_9 (sd_vret rfl (by decide) (by decide) dX1_give_86) (sd_iload_n (i := 3) rfl dX1_give_12 (sd_gets (q := 4) (by decide) (by decide) mw_886 dX1_give_13 (sd_alen dX1_give_16 (sd_icmp_ge (tgt := 44) (by decide) dX1_give_17 (sd_iconst (v := 1) (by decide) dX1_give_44 (sd_iload_n (i := 3) rfl dX1_give_45 (sd_gets (q := 4) (by decide) (by decide) mw_886 dX1_give_46 (sd_alen dX1_give_49 (sd_isub dX1_give_50 (sd_ishl dX1_give_51 (sd_istore (i := 6) (by decide) dX1_give_52 (sd_aload (n := 4) dX1_give_54 (sd_iload (n := 5) dX1_give_56 (sd_iload (n := 5) dX1_give_58 (sd_iload (n := 6) dX1_give_60 (sd_iand dX1_give_62 (sd_if_eq (tgt := 78) (by decide) dX1_give_63 (sd_lconst (v := 0) (by decide) dX1_give_78 (sd_lastore dX1_give_79 (sd_iinc (i := 5) (v := 1) (by decide) (by decide) dX1_give_80 (sd_goto (tgt := 3) (by decide) dX1_give_83 (Sd.go))))) (sd_aload_n (i := 1) rfl dX1_give_66 (sd_iload_n (i := 2) rfl dX1_give_67 (sd_iload (n := 5) dX1_give_68 (sd_iload (n := 6) dX1_give_70 (sd_ixor dX1_give_72 (sd_iadd dX1_give_73 (sd_laload dX1_give_74 (sd_goto (tgt := 79) (by decide) dX1_give_75 (sd_lastore dX1_give_79 (sd_iinc (i := 5) (v := 1) (by decide) (by decide) dX1_give_80 (sd_goto (tgt := 3) (by decide) dX1_give_83 (Sd.go))))))))))))))))))))))))) (sd_aload (n := 4) dX1_give_20 (sd_iload (n := 5) dX1_give_22 (sd_aload_n (i := 1) rfl dX1_give_24 (sd_iload_n (i := 2) rfl dX1_give_25 (sd_iload (n := 5) dX1_give_26 (sd_iadd dX1_give_28 (sd_laload dX1_give_29 (sd_gets (q := 4) (by decide) (by decide) mw_886 dX1_give_30 (sd_iload_n (i := 3) rfl dX1_give_33 (sd_laload dX1_give_34 (sd_land dX1_give_35 (sd_iconst (v := 1) (by decide) dX1_give_36 (sd_iload_n (i := 3) rfl dX1_give_37 (sd_ishl dX1_give_38 (sd_lshl dX1_give_39 (sd_lastore dX1_give_40 (sd_goto (tgt := 80) (by decide) dX1_give_41 (sd_iinc (i := 5) (v := 1) (by decide) (by decide) dX1_give_80 (sd_goto (tgt := 3) (by decide) dX1_give_83 (Sd.go))))))))))))))))))))))))))) : Sd l E YX1_give (d + 1) 0 0 Q 0 0 3 (bX1_give_3 l E d Q)) ls st h hB
theorem eX1_give {l : Launch} {E : Ev} {d : Nat} {Q : Option Value → Hp → Prop} {h : Hp} {a0 : Nat} {x1 : Nat} {x2 : Int32} {x3 : Int32} {x4 : Nat} (hk : Go l E YX1_give d 0 0 Q 0 0 0 [some (.ref a0), some (.ref x1), some (.int x2), some (.int x3), some (.ref x4), none, none] [] h) : GoM l E YX1_give d 0 0 [.ref a0, .ref x1, .int x2, .int x3, .ref x4] h Q := GoM.of (by decide +kernel) rfl (by simp [entA, YX1_give]) hk
theorem dX1_join_0 : decode cX1_join 0 = .ok (.iconst 0, 1) := by decide +kernel
theorem dX1_join_1 : decode cX1_join 1 = .ok (.istore_n 3, 1) := by decide +kernel
theorem dX1_join_2 : decode cX1_join 2 = .ok (.iload_n 3, 1) := by decide +kernel
theorem dX1_join_3 : decode cX1_join 3 = .ok (.aload_n 0, 1) := by decide +kernel
theorem dX1_join_4 : decode cX1_join 4 = .ok (.getfield 64, 3) := by decide +kernel
theorem dX1_join_7 : decode cX1_join 7 = .ok (.if_icmp .ge 25, 3) := by decide +kernel
theorem dX1_join_10 : decode cX1_join 10 = .ok (.aload_n 0, 1) := by decide +kernel
theorem dX1_join_11 : decode cX1_join 11 = .ok (.getfield 11, 3) := by decide +kernel
theorem dX1_join_14 : decode cX1_join 14 = .ok (.iload_n 1, 1) := by decide +kernel
theorem dX1_join_15 : decode cX1_join 15 = .ok (.iconst 4, 1) := by decide +kernel
theorem dX1_join_16 : decode cX1_join 16 = .ok (.imul, 1) := by decide +kernel
theorem dX1_join_17 : decode cX1_join 17 = .ok (.iload_n 3, 1) := by decide +kernel
theorem dX1_join_18 : decode cX1_join 18 = .ok (.iadd, 1) := by decide +kernel
theorem dX1_join_19 : decode cX1_join 19 = .ok (.dup2, 1) := by decide +kernel
theorem dX1_join_20 : decode cX1_join 20 = .ok (.laload, 1) := by decide +kernel
theorem dX1_join_21 : decode cX1_join 21 = .ok (.aload_n 2, 1) := by decide +kernel
theorem dX1_join_22 : decode cX1_join 22 = .ok (.iload_n 3, 1) := by decide +kernel
theorem dX1_join_23 : decode cX1_join 23 = .ok (.laload, 1) := by decide +kernel
theorem dX1_join_24 : decode cX1_join 24 = .ok (.lor, 1) := by decide +kernel
theorem dX1_join_25 : decode cX1_join 25 = .ok (.lastore, 1) := by decide +kernel
theorem dX1_join_26 : decode cX1_join 26 = .ok (.iinc 3 1, 3) := by decide +kernel
theorem dX1_join_29 : decode cX1_join 29 = .ok (.goto (-27), 3) := by decide +kernel
theorem dX1_join_32 : decode cX1_join 32 = .ok (.return_, 1) := by decide +kernel
def bX1_join_0 (l : Launch) (E : Ev) (d : Nat) (Q : Option Value → Hp → Prop) : Kt := k_push (.int 0) (k_istore 3 (Go l E YX1_join (d + 1) 0 0 Q 0 0 2))
set_option maxRecDepth 100000 in
set_option maxHeartbeats 4000000 in
theorem gX1_join_0 {l : Launch} {E : Ev} {d : Nat} {Q : Option Value → Hp → Prop} {ls : Lv} {st : List Value} {h : Hp} (hB : bX1_join_0 l E d Q ls st h) : Go l E YX1_join (d + 1) 0 0 Q 0 0 0 ls st h :=
  (sd_iconst (v := 0) (by decide) dX1_join_0 (sd_istore_n (i := 3) rfl (by decide) dX1_join_1 (Sd.go)) : Sd l E YX1_join (d + 1) 0 0 Q 0 0 0 (bX1_join_0 l E d Q)) ls st h hB
def bX1_join_2 (l : Launch) (E : Ev) (d : Nat) (Q : Option Value → Hp → Prop) : Kt := k_iload 3 (k_aload 0 (k_getI 1 7 4 (k_icmp_ge (k_vret Q) (k_aload 0 (k_getR 1 7 0 (k_iload 1 (k_push (.int 4) (k_imul (k_iload 3 (k_iadd (k_dup2 (k_laload (k_aload 2 (k_iload 3 (k_laload (k_lor (k_lastore (k_iinc 3 1 (Go l E YX1_join (d + 1) 0 0 Q 0 0 2)))))))))))))))))))
set_option maxRecDepth 100000 in
set_option maxHeartbeats 4000000 in
theorem gX1_join_2 {l : Launch} {E : Ev} {d : Nat} {Q : Option Value → Hp → Prop} {ls : Lv} {st : List Value} {h : Hp} (hB : bX1_join_2 l E d Q ls st h) : Go l E YX1_join (d + 1) 0 0 Q 0 0 2 ls st h :=
  (sd_iload_n (i := 3) rfl dX1_join_2 (sd_aload_n (i := 0) rfl dX1_join_3 (sd_getI clsX1 (f := 4) (by decide) (fun _ _ _ => rfl) mw_354 dX1_join_4 (sd_icmp_ge (tgt := 32) (by decide) dX1_join_7 (sd_vret rfl (by decide) (by decide) dX1_join_32) (sd_aload_n (i := 0) rfl dX1_join_10 (sd_getR clsX1 (f := 0) (by decide) (fun _ _ _ => rfl) mw_350 dX1_join_11 (sd_iload_n (i := 1) rfl dX1_join_14 (sd_iconst (v := 4) (by decide) dX1_join_15 (sd_imul dX1_join_16 (sd_iload_n (i := 3) rfl dX1_join_17 (sd_iadd dX1_join_18 (sd_dup2 dX1_join_19 (sd_laload dX1_join_20 (sd_aload_n (i := 2) rfl dX1_join_21 (sd_iload_n (i := 3) rfl dX1_join_22 (sd_laload dX1_join_23 (sd_lor dX1_join_24 (sd_lastore dX1_join_25 (sd_iinc (i := 3) (v := 1) (by decide) (by decide) dX1_join_26 (sd_goto (tgt := 2) (by decide) dX1_join_29 (Sd.go)))))))))))))))))))) : Sd l E YX1_join (d + 1) 0 0 Q 0 0 2 (bX1_join_2 l E d Q)) ls st h hB
theorem eX1_join {l : Launch} {E : Ev} {d : Nat} {Q : Option Value → Hp → Prop} {h : Hp} {a0 : Nat} {x1 : Int32} {x2 : Nat} (hk : Go l E YX1_join d 0 0 Q 0 0 0 [some (.ref a0), some (.int x1), some (.ref x2), none] [] h) : GoM l E YX1_join d 0 0 [.ref a0, .int x1, .ref x2] h Q := GoM.of (by decide +kernel) rfl (by simp [entA, YX1_join]) hk
theorem dX1_leastClosed_0 : decode cX1_leastClosed 0 = .ok (.iconst 0, 1) := by decide +kernel
theorem dX1_leastClosed_1 : decode cX1_leastClosed 1 = .ok (.istore_n 2, 1) := by decide +kernel
theorem dX1_leastClosed_2 : decode cX1_leastClosed 2 = .ok (.iload_n 2, 1) := by decide +kernel
theorem dX1_leastClosed_3 : decode cX1_leastClosed 3 = .ok (.iload_n 1, 1) := by decide +kernel
theorem dX1_leastClosed_4 : decode cX1_leastClosed 4 = .ok (.if_icmp .gt 44, 3) := by decide +kernel
theorem dX1_leastClosed_7 : decode cX1_leastClosed 7 = .ok (.iconst 0, 1) := by decide +kernel
theorem dX1_leastClosed_8 : decode cX1_leastClosed 8 = .ok (.istore_n 3, 1) := by decide +kernel
theorem dX1_leastClosed_9 : decode cX1_leastClosed 9 = .ok (.iload_n 3, 1) := by decide +kernel
theorem dX1_leastClosed_10 : decode cX1_leastClosed 10 = .ok (.aload_n 0, 1) := by decide +kernel
theorem dX1_leastClosed_11 : decode cX1_leastClosed 11 = .ok (.getfield 39, 3) := by decide +kernel
theorem dX1_leastClosed_14 : decode cX1_leastClosed 14 = .ok (.if_icmp .ge 28, 3) := by decide +kernel
theorem dX1_leastClosed_17 : decode cX1_leastClosed 17 = .ok (.aload_n 0, 1) := by decide +kernel
theorem dX1_leastClosed_18 : decode cX1_leastClosed 18 = .ok (.getfield 21, 3) := by decide +kernel
theorem dX1_leastClosed_21 : decode cX1_leastClosed 21 = .ok (.iload_n 3, 1) := by decide +kernel
theorem dX1_leastClosed_22 : decode cX1_leastClosed 22 = .ok (.baload, 1) := by decide +kernel
theorem dX1_leastClosed_23 : decode cX1_leastClosed 23 = .ok (.ifCond .eq 13, 3) := by decide +kernel
theorem dX1_leastClosed_26 : decode cX1_leastClosed 26 = .ok (.iload_n 3, 1) := by decide +kernel
theorem dX1_leastClosed_27 : decode cX1_leastClosed 27 = .ok (.invokestatic 97, 3) := by decide +kernel
theorem dX1_leastClosed_30 : decode cX1_leastClosed 30 = .ok (.iload_n 2, 1) := by decide +kernel
theorem dX1_leastClosed_31 : decode cX1_leastClosed 31 = .ok (.if_icmp .ne 5, 3) := by decide +kernel
theorem dX1_leastClosed_34 : decode cX1_leastClosed 34 = .ok (.iload_n 3, 1) := by decide +kernel
theorem dX1_leastClosed_35 : decode cX1_leastClosed 35 = .ok (.ireturn, 1) := by decide +kernel
theorem dX1_leastClosed_36 : decode cX1_leastClosed 36 = .ok (.iinc 3 1, 3) := by decide +kernel
theorem dX1_leastClosed_39 : decode cX1_leastClosed 39 = .ok (.goto (-30), 3) := by decide +kernel
theorem dX1_leastClosed_42 : decode cX1_leastClosed 42 = .ok (.iinc 2 1, 3) := by decide +kernel
theorem dX1_leastClosed_45 : decode cX1_leastClosed 45 = .ok (.goto (-43), 3) := by decide +kernel
theorem dX1_leastClosed_48 : decode cX1_leastClosed 48 = .ok (.iconst (-1), 1) := by decide +kernel
theorem dX1_leastClosed_49 : decode cX1_leastClosed 49 = .ok (.ireturn, 1) := by decide +kernel
def bX1_leastClosed_0 (l : Launch) (E : Ev) (d : Nat) (Q : Option Value → Hp → Prop) : Kt := k_push (.int 0) (k_istore 2 (Go l E YX1_leastClosed (d + 1) 0 0 Q 0 0 2))
set_option maxRecDepth 100000 in
set_option maxHeartbeats 4000000 in
theorem gX1_leastClosed_0 {l : Launch} {E : Ev} {d : Nat} {Q : Option Value → Hp → Prop} {ls : Lv} {st : List Value} {h : Hp} (hB : bX1_leastClosed_0 l E d Q ls st h) : Go l E YX1_leastClosed (d + 1) 0 0 Q 0 0 0 ls st h :=
  (sd_iconst (v := 0) (by decide) dX1_leastClosed_0 (sd_istore_n (i := 2) rfl (by decide) dX1_leastClosed_1 (Sd.go)) : Sd l E YX1_leastClosed (d + 1) 0 0 Q 0 0 0 (bX1_leastClosed_0 l E d Q)) ls st h hB
def bX1_leastClosed_2 (l : Launch) (E : Ev) (d : Nat) (Q : Option Value → Hp → Prop) : Kt := k_iload 2 (k_iload 1 (k_icmp_gt (k_push (.int (-1)) (k_iret .int Q)) (k_push (.int 0) (k_istore 3 (Go l E YX1_leastClosed (d + 1) 0 0 Q 0 0 9)))))
set_option maxRecDepth 100000 in
set_option maxHeartbeats 4000000 in
theorem gX1_leastClosed_2 {l : Launch} {E : Ev} {d : Nat} {Q : Option Value → Hp → Prop} {ls : Lv} {st : List Value} {h : Hp} (hB : bX1_leastClosed_2 l E d Q ls st h) : Go l E YX1_leastClosed (d + 1) 0 0 Q 0 0 2 ls st h :=
  (sd_iload_n (i := 2) rfl dX1_leastClosed_2 (sd_iload_n (i := 1) rfl dX1_leastClosed_3 (sd_icmp_gt (tgt := 48) (by decide) dX1_leastClosed_4 (sd_iconst (v := (-1)) (by decide) dX1_leastClosed_48 (sd_iret (ty := .int) rfl (by decide) (by decide) dX1_leastClosed_49)) (sd_iconst (v := 0) (by decide) dX1_leastClosed_7 (sd_istore_n (i := 3) rfl (by decide) dX1_leastClosed_8 (Sd.go))))) : Sd l E YX1_leastClosed (d + 1) 0 0 Q 0 0 2 (bX1_leastClosed_2 l E d Q)) ls st h hB
def bX1_leastClosed_9 (l : Launch) (E : Ev) (d : Nat) (Q : Option Value → Hp → Prop) : Kt := k_iload 3 (k_aload 0 (k_getI 1 7 6 (k_icmp_ge (k_iinc 2 1 (Go l E YX1_leastClosed (d + 1) 0 0 Q 0 0 2)) (k_aload 0 (k_getR 1 7 5 (k_iload 3 (k_zaload (k_if_eq (k_iinc 3 1 (Go l E YX1_leastClosed (d + 1) 0 0 Q 0 0 9)) (k_iload 3 (k_callS l E YJ6_bitCount_0f7a4 d 0 0 1 (k_iload 2 (k_icmp_ne (k_iinc 3 1 (Go l E YX1_leastClosed (d + 1) 0 0 Q 0 0 9)) (k_iload 3 (k_iret .int Q))))))))))))))
set_option maxRecDepth 100000 in
set_option maxHeartbeats 4000000 in
theorem gX1_leastClosed_9 {l : Launch} {E : Ev} {d : Nat} {Q : Option Value → Hp → Prop} {ls : Lv} {st : List Value} {h : Hp} (hB : bX1_leastClosed_9 l E d Q ls st h) : Go l E YX1_leastClosed (d + 1) 0 0 Q 0 0 9 ls st h :=
  (sd_iload_n (i := 3) rfl dX1_leastClosed_9 (sd_aload_n (i := 0) rfl dX1_leastClosed_10 (sd_getI clsX1 (f := 6) (by decide) (fun _ _ _ => rfl) mw_357 dX1_leastClosed_11 (sd_icmp_ge (tgt := 42) (by decide) dX1_leastClosed_14 (sd_iinc (i := 2) (v := 1) (by decide) (by decide) dX1_leastClosed_42 (sd_goto (tgt := 2) (by decide) dX1_leastClosed_45 (Sd.go))) (sd_aload_n (i := 0) rfl dX1_leastClosed_17 (sd_getR clsX1 (f := 5) (by decide) (fun _ _ _ => rfl) mw_355 dX1_leastClosed_18 (sd_iload_n (i := 3) rfl dX1_leastClosed_21 (sd_zaload dX1_leastClosed_22 (sd_if_eq (tgt := 36) (by decide) dX1_leastClosed_23 (sd_iinc (i := 3) (v := 1) (by decide) (by decide) dX1_leastClosed_36 (sd_goto (tgt := 9) (by decide) dX1_leastClosed_39 (Sd.go))) (sd_iload_n (i := 3) rfl dX1_leastClosed_26 (sd_callS (Y' := YJ6_bitCount_0f7a4) (mc' := 0) (ms' := 0) (n := 1) mw_974 mw_975 mw_117 mw_976 (okmJ6_bitCount_0f7a4) (by decide) (Nat.le_refl _) (by decide) (by decide) dX1_leastClosed_27 (sd_iload_n (i := 2) rfl dX1_leastClosed_30 (sd_icmp_ne (tgt := 36) (by decide) dX1_leastClosed_31 (sd_iinc (i := 3) (v := 1) (by decide) (by decide) dX1_leastClosed_36 (sd_goto (tgt := 9) (by decide) dX1_leastClosed_39 (Sd.go))) (sd_iload_n (i := 3) rfl dX1_leastClosed_34 (sd_iret (ty := .int) rfl (by decide) (by decide) dX1_leastClosed_35)))))))))))))) : Sd l E YX1_leastClosed (d + 1) 0 0 Q 0 0 9 (bX1_leastClosed_9 l E d Q)) ls st h hB
theorem eX1_leastClosed {l : Launch} {E : Ev} {d : Nat} {Q : Option Value → Hp → Prop} {h : Hp} {a0 : Nat} {x1 : Int32} (hk : Go l E YX1_leastClosed d 0 0 Q 0 0 0 [some (.ref a0), some (.int x1), none, none] [] h) : GoM l E YX1_leastClosed d 0 0 [.ref a0, .int x1] h Q := GoM.of (by decide +kernel) rfl (by simp [entA, YX1_leastClosed]) hk
theorem dX1_closingSet_0 : decode cX1_closingSet 0 = .ok (.iconst 0, 1) := by decide +kernel
theorem dX1_closingSet_1 : decode cX1_closingSet 1 = .ok (.istore_n 2, 1) := by decide +kernel
theorem dX1_closingSet_2 : decode cX1_closingSet 2 = .ok (.iconst 0, 1) := by decide +kernel
theorem dX1_closingSet_3 : decode cX1_closingSet 3 = .ok (.istore_n 3, 1) := by decide +kernel
theorem dX1_closingSet_4 : decode cX1_closingSet 4 = .ok (.iload_n 3, 1) := by decide +kernel
theorem dX1_closingSet_5 : decode cX1_closingSet 5 = .ok (.bipush 8, 2) := by decide +kernel
theorem dX1_closingSet_7 : decode cX1_closingSet 7 = .ok (.if_icmp .gt 56, 3) := by decide +kernel
theorem dX1_closingSet_10 : decode cX1_closingSet 10 = .ok (.iconst 0, 1) := by decide +kernel
theorem dX1_closingSet_11 : decode cX1_closingSet 11 = .ok (.istore 4, 2) := by decide +kernel
theorem dX1_closingSet_13 : decode cX1_closingSet 13 = .ok (.iload 4, 2) := by decide +kernel
theorem dX1_closingSet_15 : decode cX1_closingSet 15 = .ok (.aload_n 0, 1) := by decide +kernel
theorem dX1_closingSet_16 : decode cX1_closingSet 16 = .ok (.getfield 39, 3) := by decide +kernel
theorem dX1_closingSet_19 : decode cX1_closingSet 19 = .ok (.if_icmp .ge 38, 3) := by decide +kernel
theorem dX1_closingSet_22 : decode cX1_closingSet 22 = .ok (.iload 4, 2) := by decide +kernel
theorem dX1_closingSet_24 : decode cX1_closingSet 24 = .ok (.invokestatic 97, 3) := by decide +kernel
theorem dX1_closingSet_27 : decode cX1_closingSet 27 = .ok (.iload_n 3, 1) := by decide +kernel
theorem dX1_closingSet_28 : decode cX1_closingSet 28 = .ok (.if_icmp .ne 23, 3) := by decide +kernel
theorem dX1_closingSet_31 : decode cX1_closingSet 31 = .ok (.aload_n 0, 1) := by decide +kernel
theorem dX1_closingSet_32 : decode cX1_closingSet 32 = .ok (.iload 4, 2) := by decide +kernel
theorem dX1_closingSet_34 : decode cX1_closingSet 34 = .ok (.invokevirtual 103, 3) := by decide +kernel
theorem dX1_closingSet_37 : decode cX1_closingSet 37 = .ok (.ifCond .eq 14, 3) := by decide +kernel
theorem dX1_closingSet_40 : decode cX1_closingSet 40 = .ok (.iload_n 2, 1) := by decide +kernel
theorem dX1_closingSet_41 : decode cX1_closingSet 41 = .ok (.iload_n 1, 1) := by decide +kernel
theorem dX1_closingSet_42 : decode cX1_closingSet 42 = .ok (.if_icmp .ne 6, 3) := by decide +kernel
theorem dX1_closingSet_45 : decode cX1_closingSet 45 = .ok (.iload 4, 2) := by decide +kernel
theorem dX1_closingSet_47 : decode cX1_closingSet 47 = .ok (.ireturn, 1) := by decide +kernel
theorem dX1_closingSet_48 : decode cX1_closingSet 48 = .ok (.iinc 2 1, 3) := by decide +kernel
theorem dX1_closingSet_51 : decode cX1_closingSet 51 = .ok (.iinc 4 1, 3) := by decide +kernel
theorem dX1_closingSet_54 : decode cX1_closingSet 54 = .ok (.goto (-41), 3) := by decide +kernel
theorem dX1_closingSet_57 : decode cX1_closingSet 57 = .ok (.iinc 3 1, 3) := by decide +kernel
theorem dX1_closingSet_60 : decode cX1_closingSet 60 = .ok (.goto (-56), 3) := by decide +kernel
theorem dX1_closingSet_63 : decode cX1_closingSet 63 = .ok (.iload_n 1, 1) := by decide +kernel
theorem dX1_closingSet_64 : decode cX1_closingSet 64 = .ok (.iconst (-1), 1) := by decide +kernel
theorem dX1_closingSet_65 : decode cX1_closingSet 65 = .ok (.if_icmp .ne 7, 3) := by decide +kernel
theorem dX1_closingSet_68 : decode cX1_closingSet 68 = .ok (.iload_n 2, 1) := by decide +kernel
theorem dX1_closingSet_69 : decode cX1_closingSet 69 = .ok (.goto 4, 3) := by decide +kernel
theorem dX1_closingSet_72 : decode cX1_closingSet 72 = .ok (.iconst (-1), 1) := by decide +kernel
theorem dX1_closingSet_73 : decode cX1_closingSet 73 = .ok (.ireturn, 1) := by decide +kernel
def bX1_closingSet_0 (l : Launch) (E : Ev) (d : Nat) (Q : Option Value → Hp → Prop) : Kt := k_push (.int 0) (k_istore 2 (k_push (.int 0) (k_istore 3 (Go l E YX1_closingSet (d + 1) 0 0 Q 0 0 4))))
set_option maxRecDepth 100000 in
set_option maxHeartbeats 4000000 in
theorem gX1_closingSet_0 {l : Launch} {E : Ev} {d : Nat} {Q : Option Value → Hp → Prop} {ls : Lv} {st : List Value} {h : Hp} (hB : bX1_closingSet_0 l E d Q ls st h) : Go l E YX1_closingSet (d + 1) 0 0 Q 0 0 0 ls st h :=
  (sd_iconst (v := 0) (by decide) dX1_closingSet_0 (sd_istore_n (i := 2) rfl (by decide) dX1_closingSet_1 (sd_iconst (v := 0) (by decide) dX1_closingSet_2 (sd_istore_n (i := 3) rfl (by decide) dX1_closingSet_3 (Sd.go)))) : Sd l E YX1_closingSet (d + 1) 0 0 Q 0 0 0 (bX1_closingSet_0 l E d Q)) ls st h hB
def bX1_closingSet_4 (l : Launch) (E : Ev) (d : Nat) (Q : Option Value → Hp → Prop) : Kt := k_iload 3 (k_push (.int 8) (k_icmp_gt (k_iload 1 (k_push (.int (-1)) (k_icmp_ne (k_push (.int (-1)) (k_iret .int Q)) (k_iload 2 (k_iret .int Q))))) (k_push (.int 0) (k_istore 4 (Go l E YX1_closingSet (d + 1) 0 0 Q 0 0 13)))))
set_option maxRecDepth 100000 in
set_option maxHeartbeats 4000000 in
theorem gX1_closingSet_4 {l : Launch} {E : Ev} {d : Nat} {Q : Option Value → Hp → Prop} {ls : Lv} {st : List Value} {h : Hp} (hB : bX1_closingSet_4 l E d Q ls st h) : Go l E YX1_closingSet (d + 1) 0 0 Q 0 0 4 ls st h :=
  (sd_iload_n (i := 3) rfl dX1_closingSet_4 (sd_bipush (v := 8) (by decide) dX1_closingSet_5 (sd_icmp_gt (tgt := 63) (by decide) dX1_closingSet_7 (sd_iload_n (i := 1) rfl dX1_closingSet_63 (sd_iconst (v := (-1)) (by decide) dX1_closingSet_64 (sd_icmp_ne (tgt := 72) (by decide) dX1_closingSet_65 (sd_iconst (v := (-1)) (by decide) dX1_closingSet_72 (sd_iret (ty := .int) rfl (by decide) (by decide) dX1_closingSet_73)) (sd_iload_n (i := 2) rfl dX1_closingSet_68 (sd_goto (tgt := 73) (by decide) dX1_closingSet_69 (sd_iret (ty := .int) rfl (by decide) (by decide) dX1_closingSet_73)))))) (sd_iconst (v := 0) (by decide) dX1_closingSet_10 (sd_istore (i := 4) (by decide) dX1_closingSet_11 (Sd.go))))) : Sd l E YX1_closingSet (d + 1) 0 0 Q 0 0 4 (bX1_closingSet_4 l E d Q)) ls st h hB
def bX1_closingSet_13 (l : Launch) (E : Ev) (d : Nat) (Q : Option Value → Hp → Prop) : Kt := k_iload 4 (k_aload 0 (k_getI 1 7 6 (k_icmp_ge (k_iinc 3 1 (Go l E YX1_closingSet (d + 1) 0 0 Q 0 0 4)) (k_iload 4 (k_callS l E YJ6_bitCount_0f7a4 d 0 0 1 (k_iload 3 (k_icmp_ne (k_iinc 4 1 (Go l E YX1_closingSet (d + 1) 0 0 Q 0 0 13)) (k_aload 0 (k_iload 4 (k_callV l E 1 7 YX1_isClosing d 0 0 1 (k_if_eq (k_iinc 4 1 (Go l E YX1_closingSet (d + 1) 0 0 Q 0 0 13)) (k_iload 2 (k_iload 1 (k_icmp_ne (k_iinc 2 1 (k_iinc 4 1 (Go l E YX1_closingSet (d + 1) 0 0 Q 0 0 13))) (k_iload 4 (k_iret .int Q))))))))))))))))
set_option maxRecDepth 100000 in
set_option maxHeartbeats 4000000 in
theorem gX1_closingSet_13 {l : Launch} {E : Ev} {d : Nat} {Q : Option Value → Hp → Prop} {ls : Lv} {st : List Value} {h : Hp} (hB : bX1_closingSet_13 l E d Q ls st h) : Go l E YX1_closingSet (d + 1) 0 0 Q 0 0 13 ls st h :=
  (sd_iload (n := 4) dX1_closingSet_13 (sd_aload_n (i := 0) rfl dX1_closingSet_15 (sd_getI clsX1 (f := 6) (by decide) (fun _ _ _ => rfl) mw_357 dX1_closingSet_16 (sd_icmp_ge (tgt := 57) (by decide) dX1_closingSet_19 (sd_iinc (i := 3) (v := 1) (by decide) (by decide) dX1_closingSet_57 (sd_goto (tgt := 4) (by decide) dX1_closingSet_60 (Sd.go))) (sd_iload (n := 4) dX1_closingSet_22 (sd_callS (Y' := YJ6_bitCount_0f7a4) (mc' := 0) (ms' := 0) (n := 1) mw_974 mw_975 mw_117 mw_976 (okmJ6_bitCount_0f7a4) (by decide) (Nat.le_refl _) (by decide) (by decide) dX1_closingSet_24 (sd_iload_n (i := 3) rfl dX1_closingSet_27 (sd_icmp_ne (tgt := 51) (by decide) dX1_closingSet_28 (sd_iinc (i := 4) (v := 1) (by decide) (by decide) dX1_closingSet_51 (sd_goto (tgt := 13) (by decide) dX1_closingSet_54 (Sd.go))) (sd_aload_n (i := 0) rfl dX1_closingSet_31 (sd_iload (n := 4) dX1_closingSet_32 (sd_callV (Y' := YX1_isClosing) (mc' := 0) (ms' := 0) (n := 1) clsX1.1 mw_980 mw_982 mw_39 mw_105 mw_983 rfl (okmX1_isClosing) (by decide) (Nat.le_refl _) (by decide) (by decide) dX1_closingSet_34 (sd_if_eq (tgt := 51) (by decide) dX1_closingSet_37 (sd_iinc (i := 4) (v := 1) (by decide) (by decide) dX1_closingSet_51 (sd_goto (tgt := 13) (by decide) dX1_closingSet_54 (Sd.go))) (sd_iload_n (i := 2) rfl dX1_closingSet_40 (sd_iload_n (i := 1) rfl dX1_closingSet_41 (sd_icmp_ne (tgt := 48) (by decide) dX1_closingSet_42 (sd_iinc (i := 2) (v := 1) (by decide) (by decide) dX1_closingSet_48 (sd_iinc (i := 4) (v := 1) (by decide) (by decide) dX1_closingSet_51 (sd_goto (tgt := 13) (by decide) dX1_closingSet_54 (Sd.go)))) (sd_iload (n := 4) dX1_closingSet_45 (sd_iret (ty := .int) rfl (by decide) (by decide) dX1_closingSet_47)))))))))))))))) : Sd l E YX1_closingSet (d + 1) 0 0 Q 0 0 13 (bX1_closingSet_13 l E d Q)) ls st h hB
theorem eX1_closingSet {l : Launch} {E : Ev} {d : Nat} {Q : Option Value → Hp → Prop} {h : Hp} {a0 : Nat} {x1 : Int32} (hk : Go l E YX1_closingSet d 0 0 Q 0 0 0 [some (.ref a0), some (.int x1), none, none, none] [] h) : GoM l E YX1_closingSet d 0 0 [.ref a0, .int x1] h Q := GoM.of (by decide +kernel) rfl (by simp [entA, YX1_closingSet]) hk
theorem dX1_isClosing_0 : decode cX1_isClosing 0 = .ok (.aload_n 0, 1) := by decide +kernel
theorem dX1_isClosing_1 : decode cX1_isClosing 1 = .ok (.getfield 21, 3) := by decide +kernel
theorem dX1_isClosing_4 : decode cX1_isClosing 4 = .ok (.iload_n 1, 1) := by decide +kernel
theorem dX1_isClosing_5 : decode cX1_isClosing 5 = .ok (.baload, 1) := by decide +kernel
theorem dX1_isClosing_6 : decode cX1_isClosing 6 = .ok (.ifCond .ne 5, 3) := by decide +kernel
theorem dX1_isClosing_9 : decode cX1_isClosing 9 = .ok (.iconst 0, 1) := by decide +kernel
theorem dX1_isClosing_10 : decode cX1_isClosing 10 = .ok (.ireturn, 1) := by decide +kernel
theorem dX1_isClosing_11 : decode cX1_isClosing 11 = .ok (.iconst 0, 1) := by decide +kernel
theorem dX1_isClosing_12 : decode cX1_isClosing 12 = .ok (.istore_n 2, 1) := by decide +kernel
theorem dX1_isClosing_13 : decode cX1_isClosing 13 = .ok (.iload_n 2, 1) := by decide +kernel
theorem dX1_isClosing_14 : decode cX1_isClosing 14 = .ok (.bipush 8, 2) := by decide +kernel
theorem dX1_isClosing_16 : decode cX1_isClosing 16 = .ok (.if_icmp .ge 33, 3) := by decide +kernel
theorem dX1_isClosing_19 : decode cX1_isClosing 19 = .ok (.iload_n 1, 1) := by decide +kernel
theorem dX1_isClosing_20 : decode cX1_isClosing 20 = .ok (.iload_n 2, 1) := by decide +kernel
theorem dX1_isClosing_21 : decode cX1_isClosing 21 = .ok (.ishr, 1) := by decide +kernel
theorem dX1_isClosing_22 : decode cX1_isClosing 22 = .ok (.iconst 1, 1) := by decide +kernel
theorem dX1_isClosing_23 : decode cX1_isClosing 23 = .ok (.iand, 1) := by decide +kernel
theorem dX1_isClosing_24 : decode cX1_isClosing 24 = .ok (.iconst 1, 1) := by decide +kernel
theorem dX1_isClosing_25 : decode cX1_isClosing 25 = .ok (.if_icmp .ne 18, 3) := by decide +kernel
theorem dX1_isClosing_28 : decode cX1_isClosing 28 = .ok (.aload_n 0, 1) := by decide +kernel
theorem dX1_isClosing_29 : decode cX1_isClosing 29 = .ok (.getfield 21, 3) := by decide +kernel
theorem dX1_isClosing_32 : decode cX1_isClosing 32 = .ok (.iload_n 1, 1) := by decide +kernel
theorem dX1_isClosing_33 : decode cX1_isClosing 33 = .ok (.iconst 1, 1) := by decide +kernel
theorem dX1_isClosing_34 : decode cX1_isClosing 34 = .ok (.iload_n 2, 1) := by decide +kernel
theorem dX1_isClosing_35 : decode cX1_isClosing 35 = .ok (.ishl, 1) := by decide +kernel
theorem dX1_isClosing_36 : decode cX1_isClosing 36 = .ok (.ixor, 1) := by decide +kernel
theorem dX1_isClosing_37 : decode cX1_isClosing 37 = .ok (.baload, 1) := by decide +kernel
theorem dX1_isClosing_38 : decode cX1_isClosing 38 = .ok (.ifCond .eq 5, 3) := by decide +kernel
theorem dX1_isClosing_41 : decode cX1_isClosing 41 = .ok (.iconst 0, 1) := by decide +kernel
theorem dX1_isClosing_42 : decode cX1_isClosing 42 = .ok (.ireturn, 1) := by decide +kernel
theorem dX1_isClosing_43 : decode cX1_isClosing 43 = .ok (.iinc 2 1, 3) := by decide +kernel
theorem dX1_isClosing_46 : decode cX1_isClosing 46 = .ok (.goto (-33), 3) := by decide +kernel
theorem dX1_isClosing_49 : decode cX1_isClosing 49 = .ok (.iconst 1, 1) := by decide +kernel
theorem dX1_isClosing_50 : decode cX1_isClosing 50 = .ok (.ireturn, 1) := by decide +kernel
def bX1_isClosing_0 (l : Launch) (E : Ev) (d : Nat) (Q : Option Value → Hp → Prop) : Kt := k_aload 0 (k_getR 1 7 5 (k_iload 1 (k_zaload (k_if_ne (k_push (.int 0) (k_istore 2 (Go l E YX1_isClosing (d + 1) 0 0 Q 0 0 13))) (k_push (.int 0) (k_iret .boolean Q))))))
set_option maxRecDepth 100000 in
set_option maxHeartbeats 4000000 in
theorem gX1_isClosing_0 {l : Launch} {E : Ev} {d : Nat} {Q : Option Value → Hp → Prop} {ls : Lv} {st : List Value} {h : Hp} (hB : bX1_isClosing_0 l E d Q ls st h) : Go l E YX1_isClosing (d + 1) 0 0 Q 0 0 0 ls st h :=
  (sd_aload_n (i := 0) rfl dX1_isClosing_0 (sd_getR clsX1 (f := 5) (by decide) (fun _ _ _ => rfl) mw_355 dX1_isClosing_1 (sd_iload_n (i := 1) rfl dX1_isClosing_4 (sd_zaload dX1_isClosing_5 (sd_if_ne (tgt := 11) (by decide) dX1_isClosing_6 (sd_iconst (v := 0) (by decide) dX1_isClosing_11 (sd_istore_n (i := 2) rfl (by decide) dX1_isClosing_12 (Sd.go))) (sd_iconst (v := 0) (by decide) dX1_isClosing_9 (sd_iret (ty := .boolean) rfl (by decide) (by decide) dX1_isClosing_10)))))) : Sd l E YX1_isClosing (d + 1) 0 0 Q 0 0 0 (bX1_isClosing_0 l E d Q)) ls st h hB
def bX1_isClosing_13 (l : Launch) (E : Ev) (d : Nat) (Q : Option Value → Hp → Prop) : Kt := k_iload 2 (k_push (.int 8) (k_icmp_ge (k_push (.int 1) (k_iret .boolean Q)) (k_iload 1 (k_iload 2 (k_ishr (k_push (.int 1) (k_iand (k_push (.int 1) (k_icmp_ne (k_iinc 2 1 (Go l E YX1_isClosing (d + 1) 0 0 Q 0 0 13)) (k_aload 0 (k_getR 1 7 5 (k_iload 1 (k_push (.int 1) (k_iload 2 (k_ishl (k_ixor (k_zaload (k_if_eq (k_iinc 2 1 (Go l E YX1_isClosing (d + 1) 0 0 Q 0 0 13)) (k_push (.int 0) (k_iret .boolean Q))))))))))))))))))))
set_option maxRecDepth 100000 in
set_option maxHeartbeats 4000000 in
theorem gX1_isClosing_13 {l : Launch} {E : Ev} {d : Nat} {Q : Option Value → Hp → Prop} {ls : Lv} {st : List Value} {h : Hp} (hB : bX1_isClosing_13 l E d Q ls st h) : Go l E YX1_isClosing (d + 1) 0 0 Q 0 0 13 ls st h :=
  (sd_iload_n (i := 2) rfl dX1_isClosing_13 (sd_bipush (v := 8) (by decide) dX1_isClosing_14 (sd_icmp_ge (tgt := 49) (by decide) dX1_isClosing_16 (sd_iconst (v := 1) (by decide) dX1_isClosing_49 (sd_iret (ty := .boolean) rfl (by decide) (by decide) dX1_isClosing_50)) (sd_iload_n (i := 1) rfl dX1_isClosing_19 (sd_iload_n (i := 2) rfl dX1_isClosing_20 (sd_ishr dX1_isClosing_21 (sd_iconst (v := 1) (by decide) dX1_isClosing_22 (sd_iand dX1_isClosing_23 (sd_iconst (v := 1) (by decide) dX1_isClosing_24 (sd_icmp_ne (tgt := 43) (by decide) dX1_isClosing_25 (sd_iinc (i := 2) (v := 1) (by decide) (by decide) dX1_isClosing_43 (sd_goto (tgt := 13) (by decide) dX1_isClosing_46 (Sd.go))) (sd_aload_n (i := 0) rfl dX1_isClosing_28 (sd_getR clsX1 (f := 5) (by decide) (fun _ _ _ => rfl) mw_355 dX1_isClosing_29 (sd_iload_n (i := 1) rfl dX1_isClosing_32 (sd_iconst (v := 1) (by decide) dX1_isClosing_33 (sd_iload_n (i := 2) rfl dX1_isClosing_34 (sd_ishl dX1_isClosing_35 (sd_ixor dX1_isClosing_36 (sd_zaload dX1_isClosing_37 (sd_if_eq (tgt := 43) (by decide) dX1_isClosing_38 (sd_iinc (i := 2) (v := 1) (by decide) (by decide) dX1_isClosing_43 (sd_goto (tgt := 13) (by decide) dX1_isClosing_46 (Sd.go))) (sd_iconst (v := 0) (by decide) dX1_isClosing_41 (sd_iret (ty := .boolean) rfl (by decide) (by decide) dX1_isClosing_42)))))))))))))))))))) : Sd l E YX1_isClosing (d + 1) 0 0 Q 0 0 13 (bX1_isClosing_13 l E d Q)) ls st h hB
theorem eX1_isClosing {l : Launch} {E : Ev} {d : Nat} {Q : Option Value → Hp → Prop} {h : Hp} {a0 : Nat} {x1 : Int32} (hk : Go l E YX1_isClosing d 0 0 Q 0 0 0 [some (.ref a0), some (.int x1), none] [] h) : GoM l E YX1_isClosing d 0 0 [.ref a0, .int x1] h Q := GoM.of (by decide +kernel) rfl (by simp [entA, YX1_isClosing]) hk
theorem dX1_keySets_0 : decode cX1_keySets 0 = .ok (.iconst 0, 1) := by decide +kernel
theorem dX1_keySets_1 : decode cX1_keySets 1 = .ok (.istore_n 2, 1) := by decide +kernel
theorem dX1_keySets_2 : decode cX1_keySets 2 = .ok (.iconst 0, 1) := by decide +kernel
theorem dX1_keySets_3 : decode cX1_keySets 3 = .ok (.istore_n 3, 1) := by decide +kernel
theorem dX1_keySets_4 : decode cX1_keySets 4 = .ok (.iload_n 3, 1) := by decide +kernel
theorem dX1_keySets_5 : decode cX1_keySets 5 = .ok (.aload_n 0, 1) := by decide +kernel
theorem dX1_keySets_6 : decode cX1_keySets 6 = .ok (.getfield 39, 3) := by decide +kernel
theorem dX1_keySets_9 : decode cX1_keySets 9 = .ok (.if_icmp .ge 42, 3) := by decide +kernel
theorem dX1_keySets_12 : decode cX1_keySets 12 = .ok (.iload_n 3, 1) := by decide +kernel
theorem dX1_keySets_13 : decode cX1_keySets 13 = .ok (.iload_n 1, 1) := by decide +kernel
theorem dX1_keySets_14 : decode cX1_keySets 14 = .ok (.ishr, 1) := by decide +kernel
theorem dX1_keySets_15 : decode cX1_keySets 15 = .ok (.iconst 1, 1) := by decide +kernel
theorem dX1_keySets_16 : decode cX1_keySets 16 = .ok (.iand, 1) := by decide +kernel
theorem dX1_keySets_17 : decode cX1_keySets 17 = .ok (.ifCond .ne 28, 3) := by decide +kernel
theorem dX1_keySets_20 : decode cX1_keySets 20 = .ok (.aload_n 0, 1) := by decide +kernel
theorem dX1_keySets_21 : decode cX1_keySets 21 = .ok (.getfield 21, 3) := by decide +kernel
theorem dX1_keySets_24 : decode cX1_keySets 24 = .ok (.iload_n 3, 1) := by decide +kernel
theorem dX1_keySets_25 : decode cX1_keySets 25 = .ok (.baload, 1) := by decide +kernel
theorem dX1_keySets_26 : decode cX1_keySets 26 = .ok (.ifCond .ne 19, 3) := by decide +kernel
theorem dX1_keySets_29 : decode cX1_keySets 29 = .ok (.aload_n 0, 1) := by decide +kernel
theorem dX1_keySets_30 : decode cX1_keySets 30 = .ok (.getfield 21, 3) := by decide +kernel
theorem dX1_keySets_33 : decode cX1_keySets 33 = .ok (.iload_n 3, 1) := by decide +kernel
theorem dX1_keySets_34 : decode cX1_keySets 34 = .ok (.iconst 1, 1) := by decide +kernel
theorem dX1_keySets_35 : decode cX1_keySets 35 = .ok (.iload_n 1, 1) := by decide +kernel
theorem dX1_keySets_36 : decode cX1_keySets 36 = .ok (.ishl, 1) := by decide +kernel
theorem dX1_keySets_37 : decode cX1_keySets 37 = .ok (.ior, 1) := by decide +kernel
theorem dX1_keySets_38 : decode cX1_keySets 38 = .ok (.baload, 1) := by decide +kernel
theorem dX1_keySets_39 : decode cX1_keySets 39 = .ok (.ifCond .eq 6, 3) := by decide +kernel
theorem dX1_keySets_42 : decode cX1_keySets 42 = .ok (.iinc 2 1, 3) := by decide +kernel
theorem dX1_keySets_45 : decode cX1_keySets 45 = .ok (.iinc 3 1, 3) := by decide +kernel
theorem dX1_keySets_48 : decode cX1_keySets 48 = .ok (.goto (-44), 3) := by decide +kernel
theorem dX1_keySets_51 : decode cX1_keySets 51 = .ok (.iload_n 2, 1) := by decide +kernel
theorem dX1_keySets_52 : decode cX1_keySets 52 = .ok (.ireturn, 1) := by decide +kernel
def bX1_keySets_0 (l : Launch) (E : Ev) (d : Nat) (Q : Option Value → Hp → Prop) : Kt := k_push (.int 0) (k_istore 2 (k_push (.int 0) (k_istore 3 (Go l E YX1_keySets (d + 1) 0 0 Q 0 0 4))))
set_option maxRecDepth 100000 in
set_option maxHeartbeats 4000000 in
theorem gX1_keySets_0 {l : Launch} {E : Ev} {d : Nat} {Q : Option Value → Hp → Prop} {ls : Lv} {st : List Value} {h : Hp} (hB : bX1_keySets_0 l E d Q ls st h) : Go l E YX1_keySets (d + 1) 0 0 Q 0 0 0 ls st h :=
  (sd_iconst (v := 0) (by decide) dX1_keySets_0 (sd_istore_n (i := 2) rfl (by decide) dX1_keySets_1 (sd_iconst (v := 0) (by decide) dX1_keySets_2 (sd_istore_n (i := 3) rfl (by decide) dX1_keySets_3 (Sd.go)))) : Sd l E YX1_keySets (d + 1) 0 0 Q 0 0 0 (bX1_keySets_0 l E d Q)) ls st h hB
def bX1_keySets_4 (l : Launch) (E : Ev) (d : Nat) (Q : Option Value → Hp → Prop) : Kt := k_iload 3 (k_aload 0 (k_getI 1 7 6 (k_icmp_ge (k_iload 2 (k_iret .int Q)) (k_iload 3 (k_iload 1 (k_ishr (k_push (.int 1) (k_iand (k_if_ne (k_iinc 3 1 (Go l E YX1_keySets (d + 1) 0 0 Q 0 0 4)) (k_aload 0 (k_getR 1 7 5 (k_iload 3 (k_zaload (k_if_ne (k_iinc 3 1 (Go l E YX1_keySets (d + 1) 0 0 Q 0 0 4)) (k_aload 0 (k_getR 1 7 5 (k_iload 3 (k_push (.int 1) (k_iload 1 (k_ishl (k_ior (k_zaload (k_if_eq (k_iinc 3 1 (Go l E YX1_keySets (d + 1) 0 0 Q 0 0 4)) (k_iinc 2 1 (k_iinc 3 1 (Go l E YX1_keySets (d + 1) 0 0 Q 0 0 4))))))))))))))))))))))))))
set_option maxRecDepth 100000 in
set_option maxHeartbeats 4000000 in
theorem gX1_keySets_4 {l : Launch} {E : Ev} {d : Nat} {Q : Option Value → Hp → Prop} {ls : Lv} {st : List Value} {h : Hp} (hB : bX1_keySets_4 l E d Q ls st h) : Go l E YX1_keySets (d + 1) 0 0 Q 0 0 4 ls st h :=
  (sd_iload_n (i := 3) rfl dX1_keySets_4 (sd_aload_n (i := 0) rfl dX1_keySets_5 (sd_getI clsX1 (f := 6) (by decide) (fun _ _ _ => rfl) mw_357 dX1_keySets_6 (sd_icmp_ge (tgt := 51) (by decide) dX1_keySets_9 (sd_iload_n (i := 2) rfl dX1_keySets_51 (sd_iret (ty := .int) rfl (by decide) (by decide) dX1_keySets_52)) (sd_iload_n (i := 3) rfl dX1_keySets_12 (sd_iload_n (i := 1) rfl dX1_keySets_13 (sd_ishr dX1_keySets_14 (sd_iconst (v := 1) (by decide) dX1_keySets_15 (sd_iand dX1_keySets_16 (sd_if_ne (tgt := 45) (by decide) dX1_keySets_17 (sd_iinc (i := 3) (v := 1) (by decide) (by decide) dX1_keySets_45 (sd_goto (tgt := 4) (by decide) dX1_keySets_48 (Sd.go))) (sd_aload_n (i := 0) rfl dX1_keySets_20 (sd_getR clsX1 (f := 5) (by decide) (fun _ _ _ => rfl) mw_355 dX1_keySets_21 (sd_iload_n (i := 3) rfl dX1_keySets_24 (sd_zaload dX1_keySets_25 (sd_if_ne (tgt := 45) (by decide) dX1_keySets_26 (sd_iinc (i := 3) (v := 1) (by decide) (by decide) dX1_keySets_45 (sd_goto (tgt := 4) (by decide) dX1_keySets_48 (Sd.go))) (sd_aload_n (i := 0) rfl dX1_keySets_29 (sd_getR clsX1 (f := 5) (by decide) (fun _ _ _ => rfl) mw_355 dX1_keySets_30 (sd_iload_n (i := 3) rfl dX1_keySets_33 (sd_iconst (v := 1) (by decide) dX1_keySets_34 (sd_iload_n (i := 1) rfl dX1_keySets_35 (sd_ishl dX1_keySets_36 (sd_ior dX1_keySets_37 (sd_zaload dX1_keySets_38 (sd_if_eq (tgt := 45) (by decide) dX1_keySets_39 (sd_iinc (i := 3) (v := 1) (by decide) (by decide) dX1_keySets_45 (sd_goto (tgt := 4) (by decide) dX1_keySets_48 (Sd.go))) (sd_iinc (i := 2) (v := 1) (by decide) (by decide) dX1_keySets_42 (sd_iinc (i := 3) (v := 1) (by decide) (by decide) dX1_keySets_45 (sd_goto (tgt := 4) (by decide) dX1_keySets_48 (Sd.go))))))))))))))))))))))))))) : Sd l E YX1_keySets (d + 1) 0 0 Q 0 0 4 (bX1_keySets_4 l E d Q)) ls st h hB
theorem eX1_keySets {l : Launch} {E : Ev} {d : Nat} {Q : Option Value → Hp → Prop} {h : Hp} {a0 : Nat} {x1 : Int32} (hk : Go l E YX1_keySets d 0 0 Q 0 0 0 [some (.ref a0), some (.int x1), none, none] [] h) : GoM l E YX1_keySets d 0 0 [.ref a0, .int x1] h Q := GoM.of (by decide +kernel) rfl (by simp [entA, YX1_keySets]) hk
theorem dX1_closedOdds_0 : decode cX1_closedOdds 0 = .ok (.lconst 0, 1) := by decide +kernel
theorem dX1_closedOdds_1 : decode cX1_closedOdds 1 = .ok (.lstore_n 2, 1) := by decide +kernel
theorem dX1_closedOdds_2 : decode cX1_closedOdds 2 = .ok (.iconst 0, 1) := by decide +kernel
theorem dX1_closedOdds_3 : decode cX1_closedOdds 3 = .ok (.istore 4, 2) := by decide +kernel
theorem dX1_closedOdds_5 : decode cX1_closedOdds 5 = .ok (.iload 4, 2) := by decide +kernel
theorem dX1_closedOdds_7 : decode cX1_closedOdds 7 = .ok (.aload_n 0, 1) := by decide +kernel
theorem dX1_closedOdds_8 : decode cX1_closedOdds 8 = .ok (.getfield 39, 3) := by decide +kernel
theorem dX1_closedOdds_11 : decode cX1_closedOdds 11 = .ok (.if_icmp .ge 28, 3) := by decide +kernel
theorem dX1_closedOdds_14 : decode cX1_closedOdds 14 = .ok (.aload_n 0, 1) := by decide +kernel
theorem dX1_closedOdds_15 : decode cX1_closedOdds 15 = .ok (.getfield 21, 3) := by decide +kernel
theorem dX1_closedOdds_18 : decode cX1_closedOdds 18 = .ok (.iload 4, 2) := by decide +kernel
theorem dX1_closedOdds_20 : decode cX1_closedOdds 20 = .ok (.baload, 1) := by decide +kernel
theorem dX1_closedOdds_21 : decode cX1_closedOdds 21 = .ok (.ifCond .eq 12, 3) := by decide +kernel
theorem dX1_closedOdds_24 : decode cX1_closedOdds 24 = .ok (.lload_n 2, 1) := by decide +kernel
theorem dX1_closedOdds_25 : decode cX1_closedOdds 25 = .ok (.aload_n 1, 1) := by decide +kernel
theorem dX1_closedOdds_26 : decode cX1_closedOdds 26 = .ok (.iload 4, 2) := by decide +kernel
theorem dX1_closedOdds_28 : decode cX1_closedOdds 28 = .ok (.invokestatic 106, 3) := by decide +kernel
theorem dX1_closedOdds_31 : decode cX1_closedOdds 31 = .ok (.ladd, 1) := by decide +kernel
theorem dX1_closedOdds_32 : decode cX1_closedOdds 32 = .ok (.lstore_n 2, 1) := by decide +kernel
theorem dX1_closedOdds_33 : decode cX1_closedOdds 33 = .ok (.iinc 4 1, 3) := by decide +kernel
theorem dX1_closedOdds_36 : decode cX1_closedOdds 36 = .ok (.goto (-31), 3) := by decide +kernel
theorem dX1_closedOdds_39 : decode cX1_closedOdds 39 = .ok (.lload_n 2, 1) := by decide +kernel
theorem dX1_closedOdds_40 : decode cX1_closedOdds 40 = .ok (.lreturn, 1) := by decide +kernel
def bX1_closedOdds_0 (l : Launch) (E : Ev) (d : Nat) (Q : Option Value → Hp → Prop) : Kt := k_push (.long 0) (k_lstore 2 (k_push (.int 0) (k_istore 4 (Go l E YX1_closedOdds (d + 1) 0 0 Q 0 0 5))))
set_option maxRecDepth 100000 in
set_option maxHeartbeats 4000000 in
theorem gX1_closedOdds_0 {l : Launch} {E : Ev} {d : Nat} {Q : Option Value → Hp → Prop} {ls : Lv} {st : List Value} {h : Hp} (hB : bX1_closedOdds_0 l E d Q ls st h) : Go l E YX1_closedOdds (d + 1) 0 0 Q 0 0 0 ls st h :=
  (sd_lconst (v := 0) (by decide) dX1_closedOdds_0 (sd_lstore_n (i := 2) rfl (by decide) dX1_closedOdds_1 (sd_iconst (v := 0) (by decide) dX1_closedOdds_2 (sd_istore (i := 4) (by decide) dX1_closedOdds_3 (Sd.go)))) : Sd l E YX1_closedOdds (d + 1) 0 0 Q 0 0 0 (bX1_closedOdds_0 l E d Q)) ls st h hB
def bX1_closedOdds_5 (l : Launch) (E : Ev) (d : Nat) (Q : Option Value → Hp → Prop) : Kt := k_iload 4 (k_aload 0 (k_getI 1 7 6 (k_icmp_ge (k_lload 2 (k_lret Q)) (k_aload 0 (k_getR 1 7 5 (k_iload 4 (k_zaload (k_if_eq (k_iinc 4 1 (Go l E YX1_closedOdds (d + 1) 0 0 Q 0 0 5)) (k_lload 2 (k_aload 1 (k_iload 4 (k_callS l E YX1_likely d 0 0 2 (k_ladd (k_lstore 2 (k_iinc 4 1 (Go l E YX1_closedOdds (d + 1) 0 0 Q 0 0 5))))))))))))))))
set_option maxRecDepth 100000 in
set_option maxHeartbeats 4000000 in
theorem gX1_closedOdds_5 {l : Launch} {E : Ev} {d : Nat} {Q : Option Value → Hp → Prop} {ls : Lv} {st : List Value} {h : Hp} (hB : bX1_closedOdds_5 l E d Q ls st h) : Go l E YX1_closedOdds (d + 1) 0 0 Q 0 0 5 ls st h :=
  (sd_iload (n := 4) dX1_closedOdds_5 (sd_aload_n (i := 0) rfl dX1_closedOdds_7 (sd_getI clsX1 (f := 6) (by decide) (fun _ _ _ => rfl) mw_357 dX1_closedOdds_8 (sd_icmp_ge (tgt := 39) (by decide) dX1_closedOdds_11 (sd_lload_n (i := 2) rfl dX1_closedOdds_39 (sd_lret rfl (by decide) (by decide) dX1_closedOdds_40)) (sd_aload_n (i := 0) rfl dX1_closedOdds_14 (sd_getR clsX1 (f := 5) (by decide) (fun _ _ _ => rfl) mw_355 dX1_closedOdds_15 (sd_iload (n := 4) dX1_closedOdds_18 (sd_zaload dX1_closedOdds_20 (sd_if_eq (tgt := 33) (by decide) dX1_closedOdds_21 (sd_iinc (i := 4) (v := 1) (by decide) (by decide) dX1_closedOdds_33 (sd_goto (tgt := 5) (by decide) dX1_closedOdds_36 (Sd.go))) (sd_lload_n (i := 2) rfl dX1_closedOdds_24 (sd_aload_n (i := 1) rfl dX1_closedOdds_25 (sd_iload (n := 4) dX1_closedOdds_26 (sd_callS (Y' := YX1_likely) (mc' := 0) (ms' := 0) (n := 2) mw_1021 mw_1022 mw_105 mw_1023 (okmX1_likely) (by decide) (Nat.le_refl _) (by decide) (by decide) dX1_closedOdds_28 (sd_ladd dX1_closedOdds_31 (sd_lstore_n (i := 2) rfl (by decide) dX1_closedOdds_32 (sd_iinc (i := 4) (v := 1) (by decide) (by decide) dX1_closedOdds_33 (sd_goto (tgt := 5) (by decide) dX1_closedOdds_36 (Sd.go))))))))))))))))) : Sd l E YX1_closedOdds (d + 1) 0 0 Q 0 0 5 (bX1_closedOdds_5 l E d Q)) ls st h hB
theorem eX1_closedOdds {l : Launch} {E : Ev} {d : Nat} {Q : Option Value → Hp → Prop} {h : Hp} {a0 : Nat} {x1 : Nat} (hk : Go l E YX1_closedOdds d 0 0 Q 0 0 0 [some (.ref a0), some (.ref x1), none, none, none] [] h) : GoM l E YX1_closedOdds d 0 0 [.ref a0, .ref x1] h Q := GoM.of (by decide +kernel) rfl (by simp [entA, YX1_closedOdds]) hk
theorem dX1_likely_0 : decode cX1_likely 0 = .ok (.lconst 1, 1) := by decide +kernel
theorem dX1_likely_1 : decode cX1_likely 1 = .ok (.lstore_n 2, 1) := by decide +kernel
theorem dX1_likely_2 : decode cX1_likely 2 = .ok (.iconst 0, 1) := by decide +kernel
theorem dX1_likely_3 : decode cX1_likely 3 = .ok (.istore 4, 2) := by decide +kernel
theorem dX1_likely_5 : decode cX1_likely 5 = .ok (.iload 4, 2) := by decide +kernel
theorem dX1_likely_7 : decode cX1_likely 7 = .ok (.aload_n 0, 1) := by decide +kernel
theorem dX1_likely_8 : decode cX1_likely 8 = .ok (.getfield 110, 3) := by decide +kernel
theorem dX1_likely_11 : decode cX1_likely 11 = .ok (.if_icmp .ge 47, 3) := by decide +kernel
theorem dX1_likely_14 : decode cX1_likely 14 = .ok (.aload_n 0, 1) := by decide +kernel
theorem dX1_likely_15 : decode cX1_likely 15 = .ok (.getfield 113, 3) := by decide +kernel
theorem dX1_likely_18 : decode cX1_likely 18 = .ok (.iload 4, 2) := by decide +kernel
theorem dX1_likely_20 : decode cX1_likely 20 = .ok (.iconst 4, 1) := by decide +kernel
theorem dX1_likely_21 : decode cX1_likely 21 = .ok (.imul, 1) := by decide +kernel
theorem dX1_likely_22 : decode cX1_likely 22 = .ok (.iconst 3, 1) := by decide +kernel
theorem dX1_likely_23 : decode cX1_likely 23 = .ok (.iadd, 1) := by decide +kernel
theorem dX1_likely_24 : decode cX1_likely 24 = .ok (.iaload, 1) := by decide +kernel
theorem dX1_likely_25 : decode cX1_likely 25 = .ok (.istore 5, 2) := by decide +kernel
theorem dX1_likely_27 : decode cX1_likely 27 = .ok (.lload_n 2, 1) := by decide +kernel
theorem dX1_likely_28 : decode cX1_likely 28 = .ok (.iload_n 1, 1) := by decide +kernel
theorem dX1_likely_29 : decode cX1_likely 29 = .ok (.iload 4, 2) := by decide +kernel
theorem dX1_likely_31 : decode cX1_likely 31 = .ok (.ishr, 1) := by decide +kernel
theorem dX1_likely_32 : decode cX1_likely 32 = .ok (.iconst 1, 1) := by decide +kernel
theorem dX1_likely_33 : decode cX1_likely 33 = .ok (.iand, 1) := by decide +kernel
theorem dX1_likely_34 : decode cX1_likely 34 = .ok (.iconst 1, 1) := by decide +kernel
theorem dX1_likely_35 : decode cX1_likely 35 = .ok (.if_icmp .ne 9, 3) := by decide +kernel
theorem dX1_likely_38 : decode cX1_likely 38 = .ok (.iload 5, 2) := by decide +kernel
theorem dX1_likely_40 : decode cX1_likely 40 = .ok (.i2l, 1) := by decide +kernel
theorem dX1_likely_41 : decode cX1_likely 41 = .ok (.goto 9, 3) := by decide +kernel
theorem dX1_likely_44 : decode cX1_likely 44 = .ok (.bipush 100, 2) := by decide +kernel
theorem dX1_likely_46 : decode cX1_likely 46 = .ok (.iload 5, 2) := by decide +kernel
theorem dX1_likely_48 : decode cX1_likely 48 = .ok (.isub, 1) := by decide +kernel
theorem dX1_likely_49 : decode cX1_likely 49 = .ok (.i2l, 1) := by decide +kernel
theorem dX1_likely_50 : decode cX1_likely 50 = .ok (.lmul, 1) := by decide +kernel
theorem dX1_likely_51 : decode cX1_likely 51 = .ok (.lstore_n 2, 1) := by decide +kernel
theorem dX1_likely_52 : decode cX1_likely 52 = .ok (.iinc 4 1, 3) := by decide +kernel
theorem dX1_likely_55 : decode cX1_likely 55 = .ok (.goto (-50), 3) := by decide +kernel
theorem dX1_likely_58 : decode cX1_likely 58 = .ok (.lload_n 2, 1) := by decide +kernel
theorem dX1_likely_59 : decode cX1_likely 59 = .ok (.lreturn, 1) := by decide +kernel
def bX1_likely_0 (l : Launch) (E : Ev) (d : Nat) (Q : Option Value → Hp → Prop) : Kt := k_push (.long 1) (k_lstore 2 (k_push (.int 0) (k_istore 4 (Go l E YX1_likely (d + 1) 0 0 Q 0 0 5))))
set_option maxRecDepth 100000 in
set_option maxHeartbeats 4000000 in
theorem gX1_likely_0 {l : Launch} {E : Ev} {d : Nat} {Q : Option Value → Hp → Prop} {ls : Lv} {st : List Value} {h : Hp} (hB : bX1_likely_0 l E d Q ls st h) : Go l E YX1_likely (d + 1) 0 0 Q 0 0 0 ls st h :=
  (sd_lconst (v := 1) (by decide) dX1_likely_0 (sd_lstore_n (i := 2) rfl (by decide) dX1_likely_1 (sd_iconst (v := 0) (by decide) dX1_likely_2 (sd_istore (i := 4) (by decide) dX1_likely_3 (Sd.go)))) : Sd l E YX1_likely (d + 1) 0 0 Q 0 0 0 (bX1_likely_0 l E d Q)) ls st h hB
def bX1_likely_5 (l : Launch) (E : Ev) (d : Nat) (Q : Option Value → Hp → Prop) : Kt := k_iload 4 (k_aload 0 (k_getI 7 15 0 (k_icmp_ge (k_lload 2 (k_lret Q)) (k_aload 0 (k_getR 7 15 2 (k_iload 4 (k_push (.int 4) (k_imul (k_push (.int 3) (k_iadd (k_iaload (k_istore 5 (k_lload 2 (k_iload 1 (k_iload 4 (k_ishr (k_push (.int 1) (k_iand (k_push (.int 1) (k_icmp_ne (k_push (.int 100) (k_iload 5 (k_isub (k_i2l (k_lmul (k_lstore 2 (k_iinc 4 1 (Go l E YX1_likely (d + 1) 0 0 Q 0 0 5)))))))) (k_iload 5 (k_i2l (k_lmul (k_lstore 2 (k_iinc 4 1 (Go l E YX1_likely (d + 1) 0 0 Q 0 0 5))))))))))))))))))))))))))
set_option maxRecDepth 100000 in
set_option maxHeartbeats 4000000 in
theorem gX1_likely_5 {l : Launch} {E : Ev} {d : Nat} {Q : Option Value → Hp → Prop} {ls : Lv} {st : List Value} {h : Hp} (hB : bX1_likely_5 l E d Q ls st h) : Go l E YX1_likely (d + 1) 0 0 Q 0 0 5 ls st h :=
  (sd_iload (n := 4) dX1_likely_5 (sd_aload_n (i := 0) rfl dX1_likely_7 (sd_getI clsX7 (f := 0) (by decide) (fun _ _ _ => rfl) mw_139 dX1_likely_8 (sd_icmp_ge (tgt := 58) (by decide) dX1_likely_11 (sd_lload_n (i := 2) rfl dX1_likely_58 (sd_lret rfl (by decide) (by decide) dX1_likely_59)) (sd_aload_n (i := 0) rfl dX1_likely_14 (sd_getR clsX7 (f := 2) (by decide) (fun _ _ _ => rfl) mw_148 dX1_likely_15 (sd_iload (n := 4) dX1_likely_18 (sd_iconst (v := 4) (by decide) dX1_likely_20 (sd_imul dX1_likely_21 (sd_iconst (v := 3) (by decide) dX1_likely_22 (sd_iadd dX1_likely_23 (sd_iaload dX1_likely_24 (sd_istore (i := 5) (by decide) dX1_likely_25 (sd_lload_n (i := 2) rfl dX1_likely_27 (sd_iload_n (i := 1) rfl dX1_likely_28 (sd_iload (n := 4) dX1_likely_29 (sd_ishr dX1_likely_31 (sd_iconst (v := 1) (by decide) dX1_likely_32 (sd_iand dX1_likely_33 (sd_iconst (v := 1) (by decide) dX1_likely_34 (sd_icmp_ne (tgt := 44) (by decide) dX1_likely_35 (sd_bipush (v := 100) (by decide) dX1_likely_44 (sd_iload (n := 5) dX1_likely_46 (sd_isub dX1_likely_48 (sd_i2l dX1_likely_49 (sd_lmul dX1_likely_50 (sd_lstore_n (i := 2) rfl (by decide) dX1_likely_51 (sd_iinc (i := 4) (v := 1) (by decide) (by decide) dX1_likely_52 (sd_goto (tgt := 5) (by decide) dX1_likely_55 (Sd.go))))))))) (sd_iload (n := 5) dX1_likely_38 (sd_i2l dX1_likely_40 (sd_goto (tgt := 50) (by decide) dX1_likely_41 (sd_lmul dX1_likely_50 (sd_lstore_n (i := 2) rfl (by decide) dX1_likely_51 (sd_iinc (i := 4) (v := 1) (by decide) (by decide) dX1_likely_52 (sd_goto (tgt := 5) (by decide) dX1_likely_55 (Sd.go)))))))))))))))))))))))))))) : Sd l E YX1_likely (d + 1) 0 0 Q 0 0 5 (bX1_likely_5 l E d Q)) ls st h hB
theorem eX1_likely {l : Launch} {E : Ev} {d : Nat} {Q : Option Value → Hp → Prop} {h : Hp} {x1 : Nat} {x2 : Int32} (hk : Go l E YX1_likely d 0 0 Q 0 0 0 [some (.ref x1), some (.int x2), none, none, none, none] [] h) : GoM l E YX1_likely d 0 0 [.ref x1, .int x2] h Q := GoM.of (by decide +kernel) rfl (by simp [entA, YX1_likely]) hk
