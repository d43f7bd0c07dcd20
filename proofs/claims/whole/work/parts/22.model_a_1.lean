theorem dX9_knows_0 : decode cX9_knows 0 = .ok (.aload_n 0, 1) := by decide +kernel
theorem dX9_knows_1 : decode cX9_knows 1 = .ok (.iconst 0, 1) := by decide +kernel
theorem dX9_knows_2 : decode cX9_knows 2 = .ok (.putfield 123, 3) := by decide +kernel
theorem dX9_knows_5 : decode cX9_knows 5 = .ok (.iload_n 3, 1) := by decide +kernel
theorem dX9_knows_6 : decode cX9_knows 6 = .ok (.i2l, 1) := by decide +kernel
theorem dX9_knows_7 : decode cX9_knows 7 = .ok (.lconst 0, 1) := by decide +kernel
theorem dX9_knows_8 : decode cX9_knows 8 = .ok (.ldc2_w 144, 3) := by decide +kernel
theorem dX9_knows_11 : decode cX9_knows 11 = .ok (.invokestatic 133, 3) := by decide +kernel
theorem dX9_knows_14 : decode cX9_knows 14 = .ok (.ifCond .ne 9, 3) := by decide +kernel
theorem dX9_knows_17 : decode cX9_knows 17 = .ok (.aload_n 0, 1) := by decide +kernel
theorem dX9_knows_18 : decode cX9_knows 18 = .ok (.iconst (-1), 1) := by decide +kernel
theorem dX9_knows_19 : decode cX9_knows 19 = .ok (.invokevirtual 137, 3) := by decide +kernel
theorem dX9_knows_22 : decode cX9_knows 22 = .ok (.ireturn, 1) := by decide +kernel
theorem dX9_knows_23 : decode cX9_knows 23 = .ok (.aload_n 0, 1) := by decide +kernel
theorem dX9_knows_24 : decode cX9_knows 24 = .ok (.iload_n 1, 1) := by decide +kernel
theorem dX9_knows_25 : decode cX9_knows 25 = .ok (.invokevirtual 155, 3) := by decide +kernel
theorem dX9_knows_28 : decode cX9_knows 28 = .ok (.ifCond .eq 28, 3) := by decide +kernel
theorem dX9_knows_31 : decode cX9_knows 31 = .ok (.aload_n 0, 1) := by decide +kernel
theorem dX9_knows_32 : decode cX9_knows 32 = .ok (.iload_n 2, 1) := by decide +kernel
theorem dX9_knows_33 : decode cX9_knows 33 = .ok (.invokevirtual 163, 3) := by decide +kernel
theorem dX9_knows_36 : decode cX9_knows 36 = .ok (.ifCond .eq 20, 3) := by decide +kernel
theorem dX9_knows_39 : decode cX9_knows 39 = .ok (.aload_n 0, 1) := by decide +kernel
theorem dX9_knows_40 : decode cX9_knows 40 = .ok (.bipush 74, 2) := by decide +kernel
theorem dX9_knows_42 : decode cX9_knows 42 = .ok (.bipush 8, 2) := by decide +kernel
theorem dX9_knows_44 : decode cX9_knows 44 = .ok (.iload_n 1, 1) := by decide +kernel
theorem dX9_knows_45 : decode cX9_knows 45 = .ok (.imul, 1) := by decide +kernel
theorem dX9_knows_46 : decode cX9_knows 46 = .ok (.iadd, 1) := by decide +kernel
theorem dX9_knows_47 : decode cX9_knows 47 = .ok (.iload_n 2, 1) := by decide +kernel
theorem dX9_knows_48 : decode cX9_knows 48 = .ok (.iadd, 1) := by decide +kernel
theorem dX9_knows_49 : decode cX9_knows 49 = .ok (.iload_n 3, 1) := by decide +kernel
theorem dX9_knows_50 : decode cX9_knows 50 = .ok (.invokevirtual 159, 3) := by decide +kernel
theorem dX9_knows_53 : decode cX9_knows 53 = .ok (.goto 9, 3) := by decide +kernel
theorem dX9_knows_56 : decode cX9_knows 56 = .ok (.aload_n 0, 1) := by decide +kernel
theorem dX9_knows_57 : decode cX9_knows 57 = .ok (.bipush (-2), 2) := by decide +kernel
theorem dX9_knows_59 : decode cX9_knows 59 = .ok (.invokevirtual 137, 3) := by decide +kernel
theorem dX9_knows_62 : decode cX9_knows 62 = .ok (.ireturn, 1) := by decide +kernel
def bX9_knows_0 (l : Launch) (E : Ev) (d : Nat) (Q : Option Value → Hp → Prop) : Kt := k_aload 0 (k_push (.int 0) (k_putI 9 55 0 (k_iload 3 (k_i2l (k_push (.long 0) (k_push (.long 9) (k_callS l E YX9_in d 0 0 3 (k_if_ne (k_aload 0 (k_iload 1 (k_callV l E 9 55 YX9_isActor d 0 0 1 (k_if_eq (Go l E YX9_knows (d + 1) 0 0 Q 0 0 56) (k_aload 0 (k_iload 2 (k_callV l E 9 55 YX9_isPart d 0 0 1 (k_if_eq (Go l E YX9_knows (d + 1) 0 0 Q 0 0 56) (k_aload 0 (k_push (.int 74) (k_push (.int 8) (k_iload 1 (k_imul (k_iadd (k_iload 2 (k_iadd (k_iload 3 (k_callV l E 9 55 YX9_change d 0 0 2 (k_iret .int Q))))))))))))))))))) (k_aload 0 (k_push (.int (-1)) (k_callV l E 9 55 YX9_tell d 0 0 1 (k_iret .int Q))))))))))))
set_option maxRecDepth 100000 in
set_option maxHeartbeats 4000000 in
theorem gX9_knows_0 {l : Launch} {E : Ev} {d : Nat} {Q : Option Value → Hp → Prop} {ls : Lv} {st : List Value} {h : Hp} (hB : bX9_knows_0 l E d Q ls st h) : Go l E YX9_knows (d + 1) 0 0 Q 0 0 0 ls st h :=
  (sd_aload_n (i := 0) rfl dX9_knows_0 (sd_iconst (v := 0) (by decide) dX9_knows_1 (sd_putI clsX9 (f := 0) (by decide) (fun _ _ _ => rfl) rfl (Or.inl rfl) mw_1178 dX9_knows_2 (sd_iload_n (i := 3) rfl dX9_knows_5 (sd_i2l dX9_knows_6 (sd_lconst (v := 0) (by decide) dX9_knows_7 (sd_ldc2 (v := 9) mw_1368 dX9_knows_8 (sd_callS (Y' := YX9_in) (mc' := 0) (ms' := 0) (n := 3) mw_1348 mw_1349 mw_108 mw_1350 (okmX9_in) (by decide) (Nat.le_refl _) (by decide) (by decide) dX9_knows_11 (sd_if_ne (tgt := 23) (by decide) dX9_knows_14 (sd_aload_n (i := 0) rfl dX9_knows_23 (sd_iload_n (i := 1) rfl dX9_knows_24 (sd_callV (Y' := YX9_isActor) (mc' := 0) (ms' := 0) (n := 1) clsX9.1 mw_1381 mw_1383 mw_46 mw_108 mw_1384 rfl (okmX9_isActor) (by decide) (Nat.le_refl _) (by decide) (by decide) dX9_knows_25 (sd_if_eq (tgt := 56) (by decide) dX9_knows_28 (Sd.go) (sd_aload_n (i := 0) rfl dX9_knows_31 (sd_iload_n (i := 2) rfl dX9_knows_32 (sd_callV (Y' := YX9_isPart) (mc' := 0) (ms' := 0) (n := 1) clsX9.1 mw_1397 mw_1399 mw_49 mw_108 mw_1400 rfl (okmX9_isPart) (by decide) (Nat.le_refl _) (by decide) (by decide) dX9_knows_33 (sd_if_eq (tgt := 56) (by decide) dX9_knows_36 (Sd.go) (sd_aload_n (i := 0) rfl dX9_knows_39 (sd_bipush (v := 74) (by decide) dX9_knows_40 (sd_bipush (v := 8) (by decide) dX9_knows_42 (sd_iload_n (i := 1) rfl dX9_knows_44 (sd_imul dX9_knows_45 (sd_iadd dX9_knows_46 (sd_iload_n (i := 2) rfl dX9_knows_47 (sd_iadd dX9_knows_48 (sd_iload_n (i := 3) rfl dX9_knows_49 (sd_callV (Y' := YX9_change) (mc' := 0) (ms' := 0) (n := 2) clsX9.1 mw_1385 mw_1387 mw_47 mw_108 mw_1388 rfl (okmX9_change) (by decide) (Nat.le_refl _) (by decide) (by decide) dX9_knows_50 (sd_goto (tgt := 62) (by decide) dX9_knows_53 (sd_iret (ty := .int) rfl (by decide) (by decide) dX9_knows_62)))))))))))))))))))) (sd_aload_n (i := 0) rfl dX9_knows_17 (sd_iconst (v := (-1)) (by decide) dX9_knows_18 (sd_callV (Y' := YX9_tell) (mc' := 0) (ms' := 0) (n := 1) clsX9.1 mw_1351 mw_1353 mw_45 mw_108 mw_1354 rfl (okmX9_tell) (by decide) (Nat.le_refl _) (by decide) (by decide) dX9_knows_19 (sd_iret (ty := .int) rfl (by decide) (by decide) dX9_knows_22)))))))))))) : Sd l E YX9_knows (d + 1) 0 0 Q 0 0 0 (bX9_knows_0 l E d Q)) ls st h hB
def bX9_knows_56 (l : Launch) (E : Ev) (d : Nat) (Q : Option Value → Hp → Prop) : Kt := k_aload 0 (k_push (.int (-2)) (k_callV l E 9 55 YX9_tell d 0 0 1 (k_iret .int Q)))
set_option maxRecDepth 100000 in
set_option maxHeartbeats 4000000 in
theorem gX9_knows_56 {l : Launch} {E : Ev} {d : Nat} {Q : Option Value → Hp → Prop} {ls : Lv} {st : List Value} {h : Hp} (hB : bX9_knows_56 l E d Q ls st h) : Go l E YX9_knows (d + 1) 0 0 Q 0 0 56 ls st h :=
  (sd_aload_n (i := 0) rfl dX9_knows_56 (sd_bipush (v := (-2)) (by decide) dX9_knows_57 (sd_callV (Y' := YX9_tell) (mc' := 0) (ms' := 0) (n := 1) clsX9.1 mw_1351 mw_1353 mw_45 mw_108 mw_1354 rfl (okmX9_tell) (by decide) (Nat.le_refl _) (by decide) (by decide) dX9_knows_59 (sd_iret (ty := .int) rfl (by decide) (by decide) dX9_knows_62))) : Sd l E YX9_knows (d + 1) 0 0 Q 0 0 56 (bX9_knows_56 l E d Q)) ls st h hB
theorem eX9_knows {l : Launch} {E : Ev} {d : Nat} {Q : Option Value → Hp → Prop} {h : Hp} {a0 : Nat} {x1 : Int32} {x2 : Int32} {x3 : Int32} (hk : Go l E YX9_knows d 0 0 Q 0 0 0 [some (.ref a0), some (.int x1), some (.int x2), some (.int x3)] [] h) : GoM l E YX9_knows d 0 0 [.ref a0, .int x1, .int x2, .int x3] h Q := GoM.of (by decide +kernel) rfl (by simp [entA, YX9_knows]) hk
theorem dX9_ill_0 : decode cX9_ill 0 = .ok (.aload_n 0, 1) := by decide +kernel
theorem dX9_ill_1 : decode cX9_ill 1 = .ok (.iconst 0, 1) := by decide +kernel
theorem dX9_ill_2 : decode cX9_ill 2 = .ok (.putfield 123, 3) := by decide +kernel
theorem dX9_ill_5 : decode cX9_ill 5 = .ok (.aload_n 0, 1) := by decide +kernel
theorem dX9_ill_6 : decode cX9_ill 6 = .ok (.iload_n 1, 1) := by decide +kernel
theorem dX9_ill_7 : decode cX9_ill 7 = .ok (.invokevirtual 166, 3) := by decide +kernel
theorem dX9_ill_10 : decode cX9_ill 10 = .ok (.ifCond .eq 12, 3) := by decide +kernel
theorem dX9_ill_13 : decode cX9_ill 13 = .ok (.aload_n 0, 1) := by decide +kernel
theorem dX9_ill_14 : decode cX9_ill 14 = .ok (.iconst 4, 1) := by decide +kernel
theorem dX9_ill_15 : decode cX9_ill 15 = .ok (.iload_n 1, 1) := by decide +kernel
theorem dX9_ill_16 : decode cX9_ill 16 = .ok (.invokevirtual 159, 3) := by decide +kernel
theorem dX9_ill_19 : decode cX9_ill 19 = .ok (.goto 8, 3) := by decide +kernel
theorem dX9_ill_22 : decode cX9_ill 22 = .ok (.aload_n 0, 1) := by decide +kernel
theorem dX9_ill_23 : decode cX9_ill 23 = .ok (.iconst (-1), 1) := by decide +kernel
theorem dX9_ill_24 : decode cX9_ill 24 = .ok (.invokevirtual 137, 3) := by decide +kernel
theorem dX9_ill_27 : decode cX9_ill 27 = .ok (.ireturn, 1) := by decide +kernel
def bX9_ill_0 (l : Launch) (E : Ev) (d : Nat) (Q : Option Value → Hp → Prop) : Kt := k_aload 0 (k_push (.int 0) (k_putI 9 55 0 (k_aload 0 (k_iload 1 (k_callV l E 9 55 YX9_areActors d 0 0 1 (k_if_eq (k_aload 0 (k_push (.int (-1)) (k_callV l E 9 55 YX9_tell d 0 0 1 (k_iret .int Q)))) (k_aload 0 (k_push (.int 4) (k_iload 1 (k_callV l E 9 55 YX9_change d 0 0 2 (k_iret .int Q)))))))))))
set_option maxRecDepth 100000 in
set_option maxHeartbeats 4000000 in
theorem gX9_ill_0 {l : Launch} {E : Ev} {d : Nat} {Q : Option Value → Hp → Prop} {ls : Lv} {st : List Value} {h : Hp} (hB : bX9_ill_0 l E d Q ls st h) : Go l E YX9_ill (d + 1) 0 0 Q 0 0 0 ls st h :=
  (sd_aload_n (i := 0) rfl dX9_ill_0 (sd_iconst (v := 0) (by decide) dX9_ill_1 (sd_putI clsX9 (f := 0) (by decide) (fun _ _ _ => rfl) rfl (Or.inl rfl) mw_1178 dX9_ill_2 (sd_aload_n (i := 0) rfl dX9_ill_5 (sd_iload_n (i := 1) rfl dX9_ill_6 (sd_callV (Y' := YX9_areActors) (mc' := 0) (ms' := 0) (n := 1) clsX9.1 mw_1413 mw_1415 mw_50 mw_108 mw_1416 rfl (okmX9_areActors) (by decide) (Nat.le_refl _) (by decide) (by decide) dX9_ill_7 (sd_if_eq (tgt := 22) (by decide) dX9_ill_10 (sd_aload_n (i := 0) rfl dX9_ill_22 (sd_iconst (v := (-1)) (by decide) dX9_ill_23 (sd_callV (Y' := YX9_tell) (mc' := 0) (ms' := 0) (n := 1) clsX9.1 mw_1351 mw_1353 mw_45 mw_108 mw_1354 rfl (okmX9_tell) (by decide) (Nat.le_refl _) (by decide) (by decide) dX9_ill_24 (sd_iret (ty := .int) rfl (by decide) (by decide) dX9_ill_27)))) (sd_aload_n (i := 0) rfl dX9_ill_13 (sd_iconst (v := 4) (by decide) dX9_ill_14 (sd_iload_n (i := 1) rfl dX9_ill_15 (sd_callV (Y' := YX9_change) (mc' := 0) (ms' := 0) (n := 2) clsX9.1 mw_1385 mw_1387 mw_47 mw_108 mw_1388 rfl (okmX9_change) (by decide) (Nat.le_refl _) (by decide) (by decide) dX9_ill_16 (sd_goto (tgt := 27) (by decide) dX9_ill_19 (sd_iret (ty := .int) rfl (by decide) (by decide) dX9_ill_27)))))))))))) : Sd l E YX9_ill (d + 1) 0 0 Q 0 0 0 (bX9_ill_0 l E d Q)) ls st h hB
theorem eX9_ill {l : Launch} {E : Ev} {d : Nat} {Q : Option Value → Hp → Prop} {h : Hp} {a0 : Nat} {x1 : Int32} (hk : Go l E YX9_ill d 0 0 Q 0 0 0 [some (.ref a0), some (.int x1)] [] h) : GoM l E YX9_ill d 0 0 [.ref a0, .int x1] h Q := GoM.of (by decide +kernel) rfl (by simp [entA, YX9_ill]) hk
theorem dX9_terms_0 : decode cX9_terms 0 = .ok (.aload_n 0, 1) := by decide +kernel
theorem dX9_terms_1 : decode cX9_terms 1 = .ok (.iconst 0, 1) := by decide +kernel
theorem dX9_terms_2 : decode cX9_terms 2 = .ok (.putfield 123, 3) := by decide +kernel
theorem dX9_terms_5 : decode cX9_terms 5 = .ok (.iload_n 1, 1) := by decide +kernel
theorem dX9_terms_6 : decode cX9_terms 6 = .ok (.ifCond .ne 15, 3) := by decide +kernel
theorem dX9_terms_9 : decode cX9_terms 9 = .ok (.iload_n 2, 1) := by decide +kernel
theorem dX9_terms_10 : decode cX9_terms 10 = .ok (.i2l, 1) := by decide +kernel
theorem dX9_terms_11 : decode cX9_terms 11 = .ok (.lconst 0, 1) := by decide +kernel
theorem dX9_terms_12 : decode cX9_terms 12 = .ok (.ldc2_w 144, 3) := by decide +kernel
theorem dX9_terms_15 : decode cX9_terms 15 = .ok (.invokestatic 133, 3) := by decide +kernel
theorem dX9_terms_18 : decode cX9_terms 18 = .ok (.goto 40, 3) := by decide +kernel
theorem dX9_terms_21 : decode cX9_terms 21 = .ok (.iload_n 1, 1) := by decide +kernel
theorem dX9_terms_22 : decode cX9_terms 22 = .ok (.iconst 1, 1) := by decide +kernel
theorem dX9_terms_23 : decode cX9_terms 23 = .ok (.if_icmp .ne 13, 3) := by decide +kernel
theorem dX9_terms_26 : decode cX9_terms 26 = .ok (.iload_n 2, 1) := by decide +kernel
theorem dX9_terms_27 : decode cX9_terms 27 = .ok (.i2l, 1) := by decide +kernel
theorem dX9_terms_28 : decode cX9_terms 28 = .ok (.lconst 0, 1) := by decide +kernel
theorem dX9_terms_29 : decode cX9_terms 29 = .ok (.lconst 1, 1) := by decide +kernel
theorem dX9_terms_30 : decode cX9_terms 30 = .ok (.invokestatic 133, 3) := by decide +kernel
theorem dX9_terms_33 : decode cX9_terms 33 = .ok (.goto 25, 3) := by decide +kernel
theorem dX9_terms_36 : decode cX9_terms 36 = .ok (.iload_n 1, 1) := by decide +kernel
theorem dX9_terms_37 : decode cX9_terms 37 = .ok (.iconst 2, 1) := by decide +kernel
theorem dX9_terms_38 : decode cX9_terms 38 = .ok (.if_icmp .ne 19, 3) := by decide +kernel
theorem dX9_terms_41 : decode cX9_terms 41 = .ok (.iload_n 2, 1) := by decide +kernel
theorem dX9_terms_42 : decode cX9_terms 42 = .ok (.i2l, 1) := by decide +kernel
theorem dX9_terms_43 : decode cX9_terms 43 = .ok (.lconst 0, 1) := by decide +kernel
theorem dX9_terms_44 : decode cX9_terms 44 = .ok (.ldc2_w 169, 3) := by decide +kernel
theorem dX9_terms_47 : decode cX9_terms 47 = .ok (.invokestatic 133, 3) := by decide +kernel
theorem dX9_terms_50 : decode cX9_terms 50 = .ok (.ifCond .eq 7, 3) := by decide +kernel
theorem dX9_terms_53 : decode cX9_terms 53 = .ok (.iconst 1, 1) := by decide +kernel
theorem dX9_terms_54 : decode cX9_terms 54 = .ok (.goto 4, 3) := by decide +kernel
theorem dX9_terms_57 : decode cX9_terms 57 = .ok (.iconst 0, 1) := by decide +kernel
theorem dX9_terms_58 : decode cX9_terms 58 = .ok (.istore_n 3, 1) := by decide +kernel
theorem dX9_terms_59 : decode cX9_terms 59 = .ok (.iload_n 3, 1) := by decide +kernel
theorem dX9_terms_60 : decode cX9_terms 60 = .ok (.ifCond .eq 14, 3) := by decide +kernel
theorem dX9_terms_63 : decode cX9_terms 63 = .ok (.aload_n 0, 1) := by decide +kernel
theorem dX9_terms_64 : decode cX9_terms 64 = .ok (.iconst 5, 1) := by decide +kernel
theorem dX9_terms_65 : decode cX9_terms 65 = .ok (.iload_n 1, 1) := by decide +kernel
theorem dX9_terms_66 : decode cX9_terms 66 = .ok (.iadd, 1) := by decide +kernel
theorem dX9_terms_67 : decode cX9_terms 67 = .ok (.iload_n 2, 1) := by decide +kernel
theorem dX9_terms_68 : decode cX9_terms 68 = .ok (.invokevirtual 159, 3) := by decide +kernel
theorem dX9_terms_71 : decode cX9_terms 71 = .ok (.goto 8, 3) := by decide +kernel
theorem dX9_terms_74 : decode cX9_terms 74 = .ok (.aload_n 0, 1) := by decide +kernel
theorem dX9_terms_75 : decode cX9_terms 75 = .ok (.iconst (-1), 1) := by decide +kernel
theorem dX9_terms_76 : decode cX9_terms 76 = .ok (.invokevirtual 137, 3) := by decide +kernel
theorem dX9_terms_79 : decode cX9_terms 79 = .ok (.ireturn, 1) := by decide +kernel
def bX9_terms_0 (l : Launch) (E : Ev) (d : Nat) (Q : Option Value → Hp → Prop) : Kt := k_aload 0 (k_push (.int 0) (k_putI 9 55 0 (k_iload 1 (k_if_ne (k_iload 1 (k_push (.int 1) (k_icmp_ne (k_iload 1 (k_push (.int 2) (k_icmp_ne (k_push (.int 0) (Go l E YX9_terms (d + 1) 0 0 Q 0 0 58)) (k_iload 2 (k_i2l (k_push (.long 0) (k_push (.long 99) (k_callS l E YX9_in d 0 0 3 (k_if_eq (k_push (.int 0) (Go l E YX9_terms (d + 1) 0 0 Q 0 0 58)) (k_push (.int 1) (Go l E YX9_terms (d + 1) 0 0 Q 0 0 58))))))))))) (k_iload 2 (k_i2l (k_push (.long 0) (k_push (.long 1) (k_callS l E YX9_in d 0 0 3 (Go l E YX9_terms (d + 1) 0 0 Q 0 0 58))))))))) (k_iload 2 (k_i2l (k_push (.long 0) (k_push (.long 9) (k_callS l E YX9_in d 0 0 3 (Go l E YX9_terms (d + 1) 0 0 Q 0 0 58))))))))))
set_option maxRecDepth 100000 in
set_option maxHeartbeats 4000000 in
theorem gX9_terms_0 {l : Launch} {E : Ev} {d : Nat} {Q : Option Value → Hp → Prop} {ls : Lv} {st : List Value} {h : Hp} (hB : bX9_terms_0 l E d Q ls st h) : Go l E YX9_terms (d + 1) 0 0 Q 0 0 0 ls st h :=
  (sd_aload_n (i := 0) rfl dX9_terms_0 (sd_iconst (v := 0) (by decide) dX9_terms_1 (sd_putI clsX9 (f := 0) (by decide) (fun _ _ _ => rfl) rfl (Or.inl rfl) mw_1178 dX9_terms_2 (sd_iload_n (i := 1) rfl dX9_terms_5 (sd_if_ne (tgt := 21) (by decide) dX9_terms_6 (sd_iload_n (i := 1) rfl dX9_terms_21 (sd_iconst (v := 1) (by decide) dX9_terms_22 (sd_icmp_ne (tgt := 36) (by decide) dX9_terms_23 (sd_iload_n (i := 1) rfl dX9_terms_36 (sd_iconst (v := 2) (by decide) dX9_terms_37 (sd_icmp_ne (tgt := 57) (by decide) dX9_terms_38 (sd_iconst (v := 0) (by decide) dX9_terms_57 (Sd.go)) (sd_iload_n (i := 2) rfl dX9_terms_41 (sd_i2l dX9_terms_42 (sd_lconst (v := 0) (by decide) dX9_terms_43 (sd_ldc2 (v := 99) mw_1421 dX9_terms_44 (sd_callS (Y' := YX9_in) (mc' := 0) (ms' := 0) (n := 3) mw_1348 mw_1349 mw_108 mw_1350 (okmX9_in) (by decide) (Nat.le_refl _) (by decide) (by decide) dX9_terms_47 (sd_if_eq (tgt := 57) (by decide) dX9_terms_50 (sd_iconst (v := 0) (by decide) dX9_terms_57 (Sd.go)) (sd_iconst (v := 1) (by decide) dX9_terms_53 (sd_goto (tgt := 58) (by decide) dX9_terms_54 (Sd.go)))))))))))) (sd_iload_n (i := 2) rfl dX9_terms_26 (sd_i2l dX9_terms_27 (sd_lconst (v := 0) (by decide) dX9_terms_28 (sd_lconst (v := 1) (by decide) dX9_terms_29 (sd_callS (Y' := YX9_in) (mc' := 0) (ms' := 0) (n := 3) mw_1348 mw_1349 mw_108 mw_1350 (okmX9_in) (by decide) (Nat.le_refl _) (by decide) (by decide) dX9_terms_30 (sd_goto (tgt := 58) (by decide) dX9_terms_33 (Sd.go)))))))))) (sd_iload_n (i := 2) rfl dX9_terms_9 (sd_i2l dX9_terms_10 (sd_lconst (v := 0) (by decide) dX9_terms_11 (sd_ldc2 (v := 9) mw_1368 dX9_terms_12 (sd_callS (Y' := YX9_in) (mc' := 0) (ms' := 0) (n := 3) mw_1348 mw_1349 mw_108 mw_1350 (okmX9_in) (by decide) (Nat.le_refl _) (by decide) (by decide) dX9_terms_15 (sd_goto (tgt := 58) (by decide) dX9_terms_18 (Sd.go))))))))))) : Sd l E YX9_terms (d + 1) 0 0 Q 0 0 0 (bX9_terms_0 l E d Q)) ls st h hB
def bX9_terms_58 (l : Launch) (E : Ev) (d : Nat) (Q : Option Value → Hp → Prop) : Kt := k_istore 3 (k_iload 3 (k_if_eq (k_aload 0 (k_push (.int (-1)) (k_callV l E 9 55 YX9_tell d 0 0 1 (k_iret .int Q)))) (k_aload 0 (k_push (.int 5) (k_iload 1 (k_iadd (k_iload 2 (k_callV l E 9 55 YX9_change d 0 0 2 (k_iret .int Q)))))))))
set_option maxRecDepth 100000 in
set_option maxHeartbeats 4000000 in
theorem gX9_terms_58 {l : Launch} {E : Ev} {d : Nat} {Q : Option Value → Hp → Prop} {ls : Lv} {st : List Value} {h : Hp} (hB : bX9_terms_58 l E d Q ls st h) : Go l E YX9_terms (d + 1) 0 0 Q 0 0 58 ls st h :=
  (sd_istore_n (i := 3) rfl (by decide) dX9_terms_58 (sd_iload_n (i := 3) rfl dX9_terms_59 (sd_if_eq (tgt := 74) (by decide) dX9_terms_60 (sd_aload_n (i := 0) rfl dX9_terms_74 (sd_iconst (v := (-1)) (by decide) dX9_terms_75 (sd_callV (Y' := YX9_tell) (mc' := 0) (ms' := 0) (n := 1) clsX9.1 mw_1351 mw_1353 mw_45 mw_108 mw_1354 rfl (okmX9_tell) (by decide) (Nat.le_refl _) (by decide) (by decide) dX9_terms_76 (sd_iret (ty := .int) rfl (by decide) (by decide) dX9_terms_79)))) (sd_aload_n (i := 0) rfl dX9_terms_63 (sd_iconst (v := 5) (by decide) dX9_terms_64 (sd_iload_n (i := 1) rfl dX9_terms_65 (sd_iadd dX9_terms_66 (sd_iload_n (i := 2) rfl dX9_terms_67 (sd_callV (Y' := YX9_change) (mc' := 0) (ms' := 0) (n := 2) clsX9.1 mw_1385 mw_1387 mw_47 mw_108 mw_1388 rfl (okmX9_change) (by decide) (Nat.le_refl _) (by decide) (by decide) dX9_terms_68 (sd_goto (tgt := 79) (by decide) dX9_terms_71 (sd_iret (ty := .int) rfl (by decide) (by decide) dX9_terms_79)))))))))) : Sd l E YX9_terms (d + 1) 0 0 Q 0 0 58 (bX9_terms_58 l E d Q)) ls st h hB
theorem eX9_terms {l : Launch} {E : Ev} {d : Nat} {Q : Option Value → Hp → Prop} {h : Hp} {a0 : Nat} {x1 : Int32} {x2 : Int32} (hk : Go l E YX9_terms d 0 0 Q 0 0 0 [some (.ref a0), some (.int x1), some (.int x2), none] [] h) : GoM l E YX9_terms d 0 0 [.ref a0, .int x1, .int x2] h Q := GoM.of (by decide +kernel) rfl (by simp [entA, YX9_terms]) hk
theorem dX9_row_0 : decode cX9_row 0 = .ok (.aload_n 0, 1) := by decide +kernel
theorem dX9_row_1 : decode cX9_row 1 = .ok (.iconst 0, 1) := by decide +kernel
theorem dX9_row_2 : decode cX9_row 2 = .ok (.putfield 123, 3) := by decide +kernel
theorem dX9_row_5 : decode cX9_row 5 = .ok (.aload_n 0, 1) := by decide +kernel
theorem dX9_row_6 : decode cX9_row 6 = .ok (.getfield 171, 3) := by decide +kernel
theorem dX9_row_9 : decode cX9_row 9 = .ok (.istore_n 1, 1) := by decide +kernel
theorem dX9_row_10 : decode cX9_row 10 = .ok (.aload_n 0, 1) := by decide +kernel
theorem dX9_row_11 : decode cX9_row 11 = .ok (.iconst 0, 1) := by decide +kernel
theorem dX9_row_12 : decode cX9_row 12 = .ok (.putfield 171, 3) := by decide +kernel
theorem dX9_row_15 : decode cX9_row 15 = .ok (.iload_n 1, 1) := by decide +kernel
theorem dX9_row_16 : decode cX9_row 16 = .ok (.ifCond .ne 10, 3) := by decide +kernel
theorem dX9_row_19 : decode cX9_row 19 = .ok (.aload_n 0, 1) := by decide +kernel
theorem dX9_row_20 : decode cX9_row 20 = .ok (.bipush (-6), 2) := by decide +kernel
theorem dX9_row_22 : decode cX9_row 22 = .ok (.invokevirtual 137, 3) := by decide +kernel
theorem dX9_row_25 : decode cX9_row 25 = .ok (.ireturn, 1) := by decide +kernel
theorem dX9_row_26 : decode cX9_row 26 = .ok (.aload_n 0, 1) := by decide +kernel
theorem dX9_row_27 : decode cX9_row 27 = .ok (.iconst 0, 1) := by decide +kernel
theorem dX9_row_28 : decode cX9_row 28 = .ok (.putfield 174, 3) := by decide +kernel
theorem dX9_row_31 : decode cX9_row 31 = .ok (.iconst 0, 1) := by decide +kernel
theorem dX9_row_32 : decode cX9_row 32 = .ok (.istore_n 2, 1) := by decide +kernel
theorem dX9_row_33 : decode cX9_row 33 = .ok (.iconst 0, 1) := by decide +kernel
theorem dX9_row_34 : decode cX9_row 34 = .ok (.istore_n 3, 1) := by decide +kernel
theorem dX9_row_35 : decode cX9_row 35 = .ok (.iload_n 3, 1) := by decide +kernel
theorem dX9_row_36 : decode cX9_row 36 = .ok (.iload_n 1, 1) := by decide +kernel
theorem dX9_row_37 : decode cX9_row 37 = .ok (.if_icmp .ge 107, 3) := by decide +kernel
theorem dX9_row_40 : decode cX9_row 40 = .ok (.iload_n 3, 1) := by decide +kernel
theorem dX9_row_41 : decode cX9_row 41 = .ok (.iconst 2, 1) := by decide +kernel
theorem dX9_row_42 : decode cX9_row 42 = .ok (.iadd, 1) := by decide +kernel
theorem dX9_row_43 : decode cX9_row 43 = .ok (.iload_n 1, 1) := by decide +kernel
theorem dX9_row_44 : decode cX9_row 44 = .ok (.if_icmp .ge 84, 3) := by decide +kernel
theorem dX9_row_47 : decode cX9_row 47 = .ok (.aload_n 0, 1) := by decide +kernel
theorem dX9_row_48 : decode cX9_row 48 = .ok (.aload_n 0, 1) := by decide +kernel
theorem dX9_row_49 : decode cX9_row 49 = .ok (.getfield 23, 3) := by decide +kernel
theorem dX9_row_52 : decode cX9_row 52 = .ok (.iload_n 3, 1) := by decide +kernel
theorem dX9_row_53 : decode cX9_row 53 = .ok (.iaload, 1) := by decide +kernel
theorem dX9_row_54 : decode cX9_row 54 = .ok (.invokevirtual 155, 3) := by decide +kernel
theorem dX9_row_57 : decode cX9_row 57 = .ok (.ifCond .eq 71, 3) := by decide +kernel
theorem dX9_row_60 : decode cX9_row 60 = .ok (.aload_n 0, 1) := by decide +kernel
theorem dX9_row_61 : decode cX9_row 61 = .ok (.aload_n 0, 1) := by decide +kernel
theorem dX9_row_62 : decode cX9_row 62 = .ok (.getfield 23, 3) := by decide +kernel
theorem dX9_row_65 : decode cX9_row 65 = .ok (.iload_n 3, 1) := by decide +kernel
theorem dX9_row_66 : decode cX9_row 66 = .ok (.iconst 1, 1) := by decide +kernel
theorem dX9_row_67 : decode cX9_row 67 = .ok (.iadd, 1) := by decide +kernel
theorem dX9_row_68 : decode cX9_row 68 = .ok (.iaload, 1) := by decide +kernel
theorem dX9_row_69 : decode cX9_row 69 = .ok (.invokevirtual 163, 3) := by decide +kernel
theorem dX9_row_72 : decode cX9_row 72 = .ok (.ifCond .eq 56, 3) := by decide +kernel
theorem dX9_row_75 : decode cX9_row 75 = .ok (.aload_n 0, 1) := by decide +kernel
theorem dX9_row_76 : decode cX9_row 76 = .ok (.getfield 23, 3) := by decide +kernel
theorem dX9_row_79 : decode cX9_row 79 = .ok (.iload_n 3, 1) := by decide +kernel
theorem dX9_row_80 : decode cX9_row 80 = .ok (.iconst 2, 1) := by decide +kernel
theorem dX9_row_81 : decode cX9_row 81 = .ok (.iadd, 1) := by decide +kernel
theorem dX9_row_82 : decode cX9_row 82 = .ok (.iaload, 1) := by decide +kernel
theorem dX9_row_83 : decode cX9_row 83 = .ok (.bipush 9, 2) := by decide +kernel
theorem dX9_row_85 : decode cX9_row 85 = .ok (.if_icmp .gt 43, 3) := by decide +kernel
theorem dX9_row_88 : decode cX9_row 88 = .ok (.aload_n 0, 1) := by decide +kernel
theorem dX9_row_89 : decode cX9_row 89 = .ok (.getfield 13, 3) := by decide +kernel
theorem dX9_row_92 : decode cX9_row 92 = .ok (.bipush 74, 2) := by decide +kernel
theorem dX9_row_94 : decode cX9_row 94 = .ok (.bipush 8, 2) := by decide +kernel
theorem dX9_row_96 : decode cX9_row 96 = .ok (.aload_n 0, 1) := by decide +kernel
theorem dX9_row_97 : decode cX9_row 97 = .ok (.getfield 23, 3) := by decide +kernel
theorem dX9_row_100 : decode cX9_row 100 = .ok (.iload_n 3, 1) := by decide +kernel
theorem dX9_row_101 : decode cX9_row 101 = .ok (.iaload, 1) := by decide +kernel
theorem dX9_row_102 : decode cX9_row 102 = .ok (.imul, 1) := by decide +kernel
theorem dX9_row_103 : decode cX9_row 103 = .ok (.iadd, 1) := by decide +kernel
theorem dX9_row_104 : decode cX9_row 104 = .ok (.aload_n 0, 1) := by decide +kernel
theorem dX9_row_105 : decode cX9_row 105 = .ok (.getfield 23, 3) := by decide +kernel
theorem dX9_row_108 : decode cX9_row 108 = .ok (.iload_n 3, 1) := by decide +kernel
theorem dX9_row_109 : decode cX9_row 109 = .ok (.iconst 1, 1) := by decide +kernel
theorem dX9_row_110 : decode cX9_row 110 = .ok (.iadd, 1) := by decide +kernel
theorem dX9_row_111 : decode cX9_row 111 = .ok (.iaload, 1) := by decide +kernel
theorem dX9_row_112 : decode cX9_row 112 = .ok (.iadd, 1) := by decide +kernel
theorem dX9_row_113 : decode cX9_row 113 = .ok (.aload_n 0, 1) := by decide +kernel
theorem dX9_row_114 : decode cX9_row 114 = .ok (.getfield 23, 3) := by decide +kernel
theorem dX9_row_117 : decode cX9_row 117 = .ok (.iload_n 3, 1) := by decide +kernel
theorem dX9_row_118 : decode cX9_row 118 = .ok (.iconst 2, 1) := by decide +kernel
theorem dX9_row_119 : decode cX9_row 119 = .ok (.iadd, 1) := by decide +kernel
theorem dX9_row_120 : decode cX9_row 120 = .ok (.iaload, 1) := by decide +kernel
theorem dX9_row_121 : decode cX9_row 121 = .ok (.iastore, 1) := by decide +kernel
theorem dX9_row_122 : decode cX9_row 122 = .ok (.iinc 2 1, 3) := by decide +kernel
theorem dX9_row_125 : decode cX9_row 125 = .ok (.goto 13, 3) := by decide +kernel
theorem dX9_row_128 : decode cX9_row 128 = .ok (.aload_n 0, 1) := by decide +kernel
theorem dX9_row_129 : decode cX9_row 129 = .ok (.dup, 1) := by decide +kernel
theorem dX9_row_130 : decode cX9_row 130 = .ok (.getfield 174, 3) := by decide +kernel
theorem dX9_row_133 : decode cX9_row 133 = .ok (.iconst 1, 1) := by decide +kernel
theorem dX9_row_134 : decode cX9_row 134 = .ok (.iadd, 1) := by decide +kernel
theorem dX9_row_135 : decode cX9_row 135 = .ok (.putfield 174, 3) := by decide +kernel
theorem dX9_row_138 : decode cX9_row 138 = .ok (.iinc 3 3, 3) := by decide +kernel
theorem dX9_row_141 : decode cX9_row 141 = .ok (.goto (-106), 3) := by decide +kernel
theorem dX9_row_144 : decode cX9_row 144 = .ok (.aload_n 0, 1) := by decide +kernel
theorem dX9_row_145 : decode cX9_row 145 = .ok (.iload_n 2, 1) := by decide +kernel
theorem dX9_row_146 : decode cX9_row 146 = .ok (.invokevirtual 137, 3) := by decide +kernel
theorem dX9_row_149 : decode cX9_row 149 = .ok (.ireturn, 1) := by decide +kernel
def bX9_row_0 (l : Launch) (E : Ev) (d : Nat) (Q : Option Value → Hp → Prop) : Kt := k_aload 0 (k_push (.int 0) (k_putI 9 55 0 (k_aload 0 (k_getI 9 55 8 (k_istore 1 (k_aload 0 (k_push (.int 0) (k_putI 9 55 8 (k_iload 1 (k_if_ne (k_aload 0 (k_push (.int 0) (k_putI 9 55 6 (k_push (.int 0) (k_istore 2 (k_push (.int 0) (k_istore 3 (Go l E YX9_row (d + 1) 0 0 Q 0 0 35)))))))) (k_aload 0 (k_push (.int (-6)) (k_callV l E 9 55 YX9_tell d 0 0 1 (k_iret .int Q))))))))))))))
set_option maxRecDepth 100000 in
set_option maxHeartbeats 4000000 in
theorem gX9_row_0 {l : Launch} {E : Ev} {d : Nat} {Q : Option Value → Hp → Prop} {ls : Lv} {st : List Value} {h : Hp} (hB : bX9_row_0 l E d Q ls st h) : Go l E YX9_row (d + 1) 0 0 Q 0 0 0 ls st h :=
  (sd_aload_n (i := 0) rfl dX9_row_0 (sd_iconst (v := 0) (by decide) dX9_row_1 (sd_putI clsX9 (f := 0) (by decide) (fun _ _ _ => rfl) rfl (Or.inl rfl) mw_1178 dX9_row_2 (sd_aload_n (i := 0) rfl dX9_row_5 (sd_getI clsX9 (f := 8) (by decide) (fun _ _ _ => rfl) mw_1186 dX9_row_6 (sd_istore_n (i := 1) rfl (by decide) dX9_row_9 (sd_aload_n (i := 0) rfl dX9_row_10 (sd_iconst (v := 0) (by decide) dX9_row_11 (sd_putI clsX9 (f := 8) (by decide) (fun _ _ _ => rfl) rfl (Or.inl rfl) mw_1186 dX9_row_12 (sd_iload_n (i := 1) rfl dX9_row_15 (sd_if_ne (tgt := 26) (by decide) dX9_row_16 (sd_aload_n (i := 0) rfl dX9_row_26 (sd_iconst (v := 0) (by decide) dX9_row_27 (sd_putI clsX9 (f := 6) (by decide) (fun _ _ _ => rfl) rfl (Or.inl rfl) mw_1184 dX9_row_28 (sd_iconst (v := 0) (by decide) dX9_row_31 (sd_istore_n (i := 2) rfl (by decide) dX9_row_32 (sd_iconst (v := 0) (by decide) dX9_row_33 (sd_istore_n (i := 3) rfl (by decide) dX9_row_34 (Sd.go)))))))) (sd_aload_n (i := 0) rfl dX9_row_19 (sd_bipush (v := (-6)) (by decide) dX9_row_20 (sd_callV (Y' := YX9_tell) (mc' := 0) (ms' := 0) (n := 1) clsX9.1 mw_1351 mw_1353 mw_45 mw_108 mw_1354 rfl (okmX9_tell) (by decide) (Nat.le_refl _) (by decide) (by decide) dX9_row_22 (sd_iret (ty := .int) rfl (by decide) (by decide) dX9_row_25)))))))))))))) : Sd l E YX9_row (d + 1) 0 0 Q 0 0 0 (bX9_row_0 l E d Q)) ls st h hB
def bX9_row_35 (l : Launch) (E : Ev) (d : Nat) (Q : Option Value → Hp → Prop) : Kt := k_iload 3 (k_iload 1 (k_icmp_ge (k_aload 0 (k_iload 2 (k_callV l E 9 55 YX9_tell d 0 0 1 (k_iret .int Q)))) (k_iload 3 (k_push (.int 2) (k_iadd (k_iload 1 (k_icmp_ge (k_aload 0 (k_dup (k_getI 9 55 6 (k_push (.int 1) (k_iadd (k_putI 9 55 6 (k_iinc 3 3 (Go l E YX9_row (d + 1) 0 0 Q 0 0 35)))))))) (k_aload 0 (k_aload 0 (k_getR 9 55 7 (k_iload 3 (k_iaload (k_callV l E 9 55 YX9_isActor d 0 0 1 (k_if_eq (k_aload 0 (k_dup (k_getI 9 55 6 (k_push (.int 1) (k_iadd (k_putI 9 55 6 (k_iinc 3 3 (Go l E YX9_row (d + 1) 0 0 Q 0 0 35)))))))) (k_aload 0 (k_aload 0 (k_getR 9 55 7 (k_iload 3 (k_push (.int 1) (k_iadd (k_iaload (k_callV l E 9 55 YX9_isPart d 0 0 1 (k_if_eq (k_aload 0 (k_dup (k_getI 9 55 6 (k_push (.int 1) (k_iadd (k_putI 9 55 6 (k_iinc 3 3 (Go l E YX9_row (d + 1) 0 0 Q 0 0 35)))))))) (k_aload 0 (k_getR 9 55 7 (k_iload 3 (k_push (.int 2) (k_iadd (k_iaload (k_push (.int 9) (k_icmp_gt (k_aload 0 (k_dup (k_getI 9 55 6 (k_push (.int 1) (k_iadd (k_putI 9 55 6 (k_iinc 3 3 (Go l E YX9_row (d + 1) 0 0 Q 0 0 35)))))))) (k_aload 0 (k_getR 9 55 3 (k_push (.int 74) (k_push (.int 8) (k_aload 0 (k_getR 9 55 7 (k_iload 3 (k_iaload (k_imul (k_iadd (k_aload 0 (k_getR 9 55 7 (k_iload 3 (k_push (.int 1) (k_iadd (k_iaload (k_iadd (k_aload 0 (k_getR 9 55 7 (k_iload 3 (k_push (.int 2) (k_iadd (k_iaload (k_iastore (k_iinc 2 1 (k_iinc 3 3 (Go l E YX9_row (d + 1) 0 0 Q 0 0 35))))))))))))))))))))))))))))))))))))))))))))))))))))))))))
set_option maxRecDepth 100000 in
set_option maxHeartbeats 4000000 in
theorem gX9_row_35 {l : Launch} {E : Ev} {d : Nat} {Q : Option Value → Hp → Prop} {ls : Lv} {st : List Value} {h : Hp} (hB : bX9_row_35 l E d Q ls st h) : Go l E YX9_row (d + 1) 0 0 Q 0 0 35 ls st h :=
  (sd_iload_n (i := 3) rfl dX9_row_35 (sd_iload_n (i := 1) rfl dX9_row_36 (sd_icmp_ge (tgt := 144) (by decide) dX9_row_37 (sd_aload_n (i := 0) rfl dX9_row_144 (sd_iload_n (i := 2) rfl dX9_row_145 (sd_callV (Y' := YX9_tell) (mc' := 0) (ms' := 0) (n := 1) clsX9.1 mw_1351 mw_1353 mw_45 mw_108 mw_1354 rfl (okmX9_tell) (by decide) (Nat.le_refl _) (by decide) (by decide) dX9_row_146 (sd_iret (ty := .int) rfl (by decide) (by decide) dX9_row_149)))) (sd_iload_n (i := 3) rfl dX9_row_40 (sd_iconst (v := 2) (by decide) dX9_row_41 (sd_iadd dX9_row_42 (sd_iload_n (i := 1) rfl dX9_row_43 (sd_icmp_ge (tgt := 128) (by decide) dX9_row_44 (sd_aload_n (i := 0) rfl dX9_row_128 (sd_dup dX9_row_129 (sd_getI clsX9 (f := 6) (by decide) (fun _ _ _ => rfl) mw_1184 dX9_row_130 (sd_iconst (v := 1) (by decide) dX9_row_133 (sd_iadd dX9_row_134 (sd_putI clsX9 (f := 6) (by decide) (fun _ _ _ => rfl) rfl (Or.inl rfl) mw_1184 dX9_row_135 (sd_iinc (i := 3) (v := 3) (by decide) (by decide) dX9_row_138 (sd_goto (tgt := 35) (by decide) dX9_row_141 (Sd.go))))))))) (sd_aload_n (i := 0) rfl dX9_row_47 (sd_aload_n (i := 0) rfl dX9_row_48 (sd_getR clsX9 (f := 7) (by decide) (fun _ _ _ => rfl) mw_1185 dX9_row_49 (sd_iload_n (i := 3) rfl dX9_row_52 (sd_iaload dX9_row_53 (sd_callV (Y' := YX9_isActor) (mc' := 0) (ms' := 0) (n := 1) clsX9.1 mw_1381 mw_1383 mw_46 mw_108 mw_1384 rfl (okmX9_isActor) (by decide) (Nat.le_refl _) (by decide) (by decide) dX9_row_54 (sd_if_eq (tgt := 128) (by decide) dX9_row_57 (sd_aload_n (i := 0) rfl dX9_row_128 (sd_dup dX9_row_129 (sd_getI clsX9 (f := 6) (by decide) (fun _ _ _ => rfl) mw_1184 dX9_row_130 (sd_iconst (v := 1) (by decide) dX9_row_133 (sd_iadd dX9_row_134 (sd_putI clsX9 (f := 6) (by decide) (fun _ _ _ => rfl) rfl (Or.inl rfl) mw_1184 dX9_row_135 (sd_iinc (i := 3) (v := 3) (by decide) (by decide) dX9_row_138 (sd_goto (tgt := 35) (by decide) dX9_row_141 (Sd.go))))))))) (sd_aload_n (i := 0) rfl dX9_row_60 (sd_aload_n (i := 0) rfl dX9_row_61 (sd_getR clsX9 (f := 7) (by decide) (fun _ _ _ => rfl) mw_1185 dX9_row_62 (sd_iload_n (i := 3) rfl dX9_row_65 (sd_iconst (v := 1) (by decide) dX9_row_66 (sd_iadd dX9_row_67 (sd_iaload dX9_row_68 (sd_callV (Y' := YX9_isPart) (mc' := 0) (ms' := 0) (n := 1) clsX9.1 mw_1397 mw_1399 mw_49 mw_108 mw_1400 rfl (okmX9_isPart) (by decide) (Nat.le_refl _) (by decide) (by decide) dX9_row_69 (sd_if_eq (tgt := 128) (by decide) dX9_row_72 (sd_aload_n (i := 0) rfl dX9_row_128 (sd_dup dX9_row_129 (sd_getI clsX9 (f := 6) (by decide) (fun _ _ _ => rfl) mw_1184 dX9_row_130 (sd_iconst (v := 1) (by decide) dX9_row_133 (sd_iadd dX9_row_134 (sd_putI clsX9 (f := 6) (by decide) (fun _ _ _ => rfl) rfl (Or.inl rfl) mw_1184 dX9_row_135 (sd_iinc (i := 3) (v := 3) (by decide) (by decide) dX9_row_138 (sd_goto (tgt := 35) (by decide) dX9_row_141 (Sd.go))))))))) (sd_aload_n (i := 0) rfl dX9_row_75 (sd_getR clsX9 (f := 7) (by decide) (fun _ _ _ => rfl) mw_1185 dX9_row_76 (sd_iload_n (i := 3) rfl dX9_row_79 (sd_iconst (v := 2) (by decide) dX9_row_80 (sd_iadd dX9_row_81 (sd_iaload dX9_row_82 (sd_bipush (v := 9) (by decide) dX9_row_83 (sd_icmp_gt (tgt := 128) (by decide) dX9_row_85 (sd_aload_n (i := 0) rfl dX9_row_128 (sd_dup dX9_row_129 (sd_getI clsX9 (f := 6) (by decide) (fun _ _ _ => rfl) mw_1184 dX9_row_130 (sd_iconst (v := 1) (by decide) dX9_row_133 (sd_iadd dX9_row_134 (sd_putI clsX9 (f := 6) (by decide) (fun _ _ _ => rfl) rfl (Or.inl rfl) mw_1184 dX9_row_135 (sd_iinc (i := 3) (v := 3) (by decide) (by decide) dX9_row_138 (sd_goto (tgt := 35) (by decide) dX9_row_141 (Sd.go))))))))) (sd_aload_n (i := 0) rfl dX9_row_88 (sd_getR clsX9 (f := 3) (by decide) (fun _ _ _ => rfl) mw_1181 dX9_row_89 (sd_bipush (v := 74) (by decide) dX9_row_92 (sd_bipush (v := 8) (by decide) dX9_row_94 (sd_aload_n (i := 0) rfl dX9_row_96 (sd_getR clsX9 (f := 7) (by decide) (fun _ _ _ => rfl) mw_1185 dX9_row_97 (sd_iload_n (i := 3) rfl dX9_row_100 (sd_iaload dX9_row_101 (sd_imul dX9_row_102 (sd_iadd dX9_row_103 (sd_aload_n (i := 0) rfl dX9_row_104 (sd_getR clsX9 (f := 7) (by decide) (fun _ _ _ => rfl) mw_1185 dX9_row_105 (sd_iload_n (i := 3) rfl dX9_row_108 (sd_iconst (v := 1) (by decide) dX9_row_109 (sd_iadd dX9_row_110 (sd_iaload dX9_row_111 (sd_iadd dX9_row_112 (sd_aload_n (i := 0) rfl dX9_row_113 (sd_getR clsX9 (f := 7) (by decide) (fun _ _ _ => rfl) mw_1185 dX9_row_114 (sd_iload_n (i := 3) rfl dX9_row_117 (sd_iconst (v := 2) (by decide) dX9_row_118 (sd_iadd dX9_row_119 (sd_iaload dX9_row_120 (sd_iastore dX9_row_121 (sd_iinc (i := 2) (v := 1) (by decide) (by decide) dX9_row_122 (sd_goto (tgt := 138) (by decide) dX9_row_125 (sd_iinc (i := 3) (v := 3) (by decide) (by decide) dX9_row_138 (sd_goto (tgt := 35) (by decide) dX9_row_141 (Sd.go)))))))))))))))))))))))))))))))))))))))))))))))))))))))))))) : Sd l E YX9_row (d + 1) 0 0 Q 0 0 35 (bX9_row_35 l E d Q)) ls st h hB
theorem eX9_row {l : Launch} {E : Ev} {d : Nat} {Q : Option Value → Hp → Prop} {h : Hp} {a0 : Nat} (hk : Go l E YX9_row d 0 0 Q 0 0 0 [some (.ref a0), none, none, none] [] h) : GoM l E YX9_row d 0 0 [.ref a0] h Q := GoM.of (by decide +kernel) rfl (by simp [entA, YX9_row]) hk
theorem dX9_forgot_0 : decode cX9_forgot 0 = .ok (.aload_n 0, 1) := by decide +kernel
theorem dX9_forgot_1 : decode cX9_forgot 1 = .ok (.iconst 0, 1) := by decide +kernel
theorem dX9_forgot_2 : decode cX9_forgot 2 = .ok (.putfield 123, 3) := by decide +kernel
theorem dX9_forgot_5 : decode cX9_forgot 5 = .ok (.aload_n 0, 1) := by decide +kernel
theorem dX9_forgot_6 : decode cX9_forgot 6 = .ok (.getfield 174, 3) := by decide +kernel
theorem dX9_forgot_9 : decode cX9_forgot 9 = .ok (.ireturn, 1) := by decide +kernel
def bX9_forgot_0 (l : Launch) (E : Ev) (d : Nat) (Q : Option Value → Hp → Prop) : Kt := k_aload 0 (k_push (.int 0) (k_putI 9 55 0 (k_aload 0 (k_getI 9 55 6 (k_iret .int Q)))))
set_option maxRecDepth 100000 in
set_option maxHeartbeats 4000000 in
theorem gX9_forgot_0 {l : Launch} {E : Ev} {d : Nat} {Q : Option Value → Hp → Prop} {ls : Lv} {st : List Value} {h : Hp} (hB : bX9_forgot_0 l E d Q ls st h) : Go l E YX9_forgot (d + 1) 0 0 Q 0 0 0 ls st h :=
  (sd_aload_n (i := 0) rfl dX9_forgot_0 (sd_iconst (v := 0) (by decide) dX9_forgot_1 (sd_putI clsX9 (f := 0) (by decide) (fun _ _ _ => rfl) rfl (Or.inl rfl) mw_1178 dX9_forgot_2 (sd_aload_n (i := 0) rfl dX9_forgot_5 (sd_getI clsX9 (f := 6) (by decide) (fun _ _ _ => rfl) mw_1184 dX9_forgot_6 (sd_iret (ty := .int) rfl (by decide) (by decide) dX9_forgot_9))))) : Sd l E YX9_forgot (d + 1) 0 0 Q 0 0 0 (bX9_forgot_0 l E d Q)) ls st h hB
theorem eX9_forgot {l : Launch} {E : Ev} {d : Nat} {Q : Option Value → Hp → Prop} {h : Hp} {a0 : Nat} (hk : Go l E YX9_forgot d 0 0 Q 0 0 0 [some (.ref a0)] [] h) : GoM l E YX9_forgot d 0 0 [.ref a0] h Q := GoM.of (by decide +kernel) rfl (by simp [entA, YX9_forgot]) hk
theorem dX9_four_0 : decode cX9_four 0 = .ok (.bipush 24, 2) := by decide +kernel
theorem dX9_four_2 : decode cX9_four 2 = .ok (.istore_n 2, 1) := by decide +kernel
theorem dX9_four_3 : decode cX9_four 3 = .ok (.iload_n 2, 1) := by decide +kernel
theorem dX9_four_4 : decode cX9_four 4 = .ok (.ifCond .lt 35, 3) := by decide +kernel
theorem dX9_four_7 : decode cX9_four 7 = .ok (.aload_n 0, 1) := by decide +kernel
theorem dX9_four_8 : decode cX9_four 8 = .ok (.getfield 23, 3) := by decide +kernel
theorem dX9_four_11 : decode cX9_four 11 = .ok (.aload_n 0, 1) := by decide +kernel
theorem dX9_four_12 : decode cX9_four 12 = .ok (.getfield 171, 3) := by decide +kernel
theorem dX9_four_15 : decode cX9_four 15 = .ok (.iload_n 1, 1) := by decide +kernel
theorem dX9_four_16 : decode cX9_four 16 = .ok (.iload_n 2, 1) := by decide +kernel
theorem dX9_four_17 : decode cX9_four 17 = .ok (.ishr, 1) := by decide +kernel
theorem dX9_four_18 : decode cX9_four 18 = .ok (.sipush 255, 3) := by decide +kernel
theorem dX9_four_21 : decode cX9_four 21 = .ok (.iand, 1) := by decide +kernel
theorem dX9_four_22 : decode cX9_four 22 = .ok (.iastore, 1) := by decide +kernel
theorem dX9_four_23 : decode cX9_four 23 = .ok (.aload_n 0, 1) := by decide +kernel
theorem dX9_four_24 : decode cX9_four 24 = .ok (.dup, 1) := by decide +kernel
theorem dX9_four_25 : decode cX9_four 25 = .ok (.getfield 171, 3) := by decide +kernel
theorem dX9_four_28 : decode cX9_four 28 = .ok (.iconst 1, 1) := by decide +kernel
theorem dX9_four_29 : decode cX9_four 29 = .ok (.iadd, 1) := by decide +kernel
theorem dX9_four_30 : decode cX9_four 30 = .ok (.putfield 171, 3) := by decide +kernel
theorem dX9_four_33 : decode cX9_four 33 = .ok (.iinc 2 (-8), 3) := by decide +kernel
theorem dX9_four_36 : decode cX9_four 36 = .ok (.goto (-33), 3) := by decide +kernel
theorem dX9_four_39 : decode cX9_four 39 = .ok (.return_, 1) := by decide +kernel
def bX9_four_0 (l : Launch) (E : Ev) (d : Nat) (Q : Option Value → Hp → Prop) : Kt := k_push (.int 24) (k_istore 2 (Go l E YX9_four (d + 1) 0 0 Q 0 0 3))
set_option maxRecDepth 100000 in
set_option maxHeartbeats 4000000 in
theorem gX9_four_0 {l : Launch} {E : Ev} {d : Nat} {Q : Option Value → Hp → Prop} {ls : Lv} {st : List Value} {h : Hp} (hB : bX9_four_0 l E d Q ls st h) : Go l E YX9_four (d + 1) 0 0 Q 0 0 0 ls st h :=
  (sd_bipush (v := 24) (by decide) dX9_four_0 (sd_istore_n (i := 2) rfl (by decide) dX9_four_2 (Sd.go)) : Sd l E YX9_four (d + 1) 0 0 Q 0 0 0 (bX9_four_0 l E d Q)) ls st h hB
def bX9_four_3 (l : Launch) (E : Ev) (d : Nat) (Q : Option Value → Hp → Prop) : Kt := k_iload 2 (k_if_lt (k_vret Q) (k_aload 0 (k_getR 9 55 7 (k_aload 0 (k_getI 9 55 8 (k_iload 1 (k_iload 2 (k_ishr (k_push (.int 255) (k_iand (k_iastore (k_aload 0 (k_dup (k_getI 9 55 8 (k_push (.int 1) (k_iadd (k_putI 9 55 8 (k_iinc 2 (-8) (Go l E YX9_four (d + 1) 0 0 Q 0 0 3)))))))))))))))))))
set_option maxRecDepth 100000 in
set_option maxHeartbeats 4000000 in
theorem gX9_four_3 {l : Launch} {E : Ev} {d : Nat} {Q : Option Value → Hp → Prop} {ls : Lv} {st : List Value} {h : Hp} (hB : bX9_four_3 l E d Q ls st h) : Go l E YX9_four (d + 1) 0 0 Q 0 0 3 ls st h :=
  (sd_iload_n (i := 2) rfl dX9_four_3 (sd_if_lt (tgt := 39) (by decide) dX9_four_4 (sd_vret rfl (by decide) (by decide) dX9_four_39) (sd_aload_n (i := 0) rfl dX9_four_7 (sd_getR clsX9 (f := 7) (by decide) (fun _ _ _ => rfl) mw_1185 dX9_four_8 (sd_aload_n (i := 0) rfl dX9_four_11 (sd_getI clsX9 (f := 8) (by decide) (fun _ _ _ => rfl) mw_1186 dX9_four_12 (sd_iload_n (i := 1) rfl dX9_four_15 (sd_iload_n (i := 2) rfl dX9_four_16 (sd_ishr dX9_four_17 (sd_sipush (v := 255) (by decide) dX9_four_18 (sd_iand dX9_four_21 (sd_iastore dX9_four_22 (sd_aload_n (i := 0) rfl dX9_four_23 (sd_dup dX9_four_24 (sd_getI clsX9 (f := 8) (by decide) (fun _ _ _ => rfl) mw_1186 dX9_four_25 (sd_iconst (v := 1) (by decide) dX9_four_28 (sd_iadd dX9_four_29 (sd_putI clsX9 (f := 8) (by decide) (fun _ _ _ => rfl) rfl (Or.inl rfl) mw_1186 dX9_four_30 (sd_iinc (i := 2) (v := (-8)) (by decide) (by decide) dX9_four_33 (sd_goto (tgt := 3) (by decide) dX9_four_36 (Sd.go)))))))))))))))))))) : Sd l E YX9_four (d + 1) 0 0 Q 0 0 3 (bX9_four_3 l E d Q)) ls st h hB
theorem eX9_four {l : Launch} {E : Ev} {d : Nat} {Q : Option Value → Hp → Prop} {h : Hp} {a0 : Nat} {x1 : Int32} (hk : Go l E YX9_four d 0 0 Q 0 0 0 [some (.ref a0), some (.int x1), none] [] h) : GoM l E YX9_four d 0 0 [.ref a0, .int x1] h Q := GoM.of (by decide +kernel) rfl (by simp [entA, YX9_four]) hk
theorem dX9_feed_0 : decode cX9_feed 0 = .ok (.aload_n 0, 1) := by decide +kernel
theorem dX9_feed_1 : decode cX9_feed 1 = .ok (.iconst 0, 1) := by decide +kernel
theorem dX9_feed_2 : decode cX9_feed 2 = .ok (.putfield 123, 3) := by decide +kernel
theorem dX9_feed_5 : decode cX9_feed 5 = .ok (.aload_n 0, 1) := by decide +kernel
theorem dX9_feed_6 : decode cX9_feed 6 = .ok (.getfield 171, 3) := by decide +kernel
theorem dX9_feed_9 : decode cX9_feed 9 = .ok (.bipush 20, 2) := by decide +kernel
theorem dX9_feed_11 : decode cX9_feed 11 = .ok (.iadd, 1) := by decide +kernel
theorem dX9_feed_12 : decode cX9_feed 12 = .ok (.sipush 400, 3) := by decide +kernel
theorem dX9_feed_15 : decode cX9_feed 15 = .ok (.if_icmp .le 5, 3) := by decide +kernel
theorem dX9_feed_18 : decode cX9_feed 18 = .ok (.iconst (-1), 1) := by decide +kernel
theorem dX9_feed_19 : decode cX9_feed 19 = .ok (.ireturn, 1) := by decide +kernel
theorem dX9_feed_20 : decode cX9_feed 20 = .ok (.aload_n 0, 1) := by decide +kernel
theorem dX9_feed_21 : decode cX9_feed 21 = .ok (.iload_n 1, 1) := by decide +kernel
theorem dX9_feed_22 : decode cX9_feed 22 = .ok (.invokevirtual 177, 3) := by decide +kernel
theorem dX9_feed_25 : decode cX9_feed 25 = .ok (.aload_n 0, 1) := by decide +kernel
theorem dX9_feed_26 : decode cX9_feed 26 = .ok (.iload_n 2, 1) := by decide +kernel
theorem dX9_feed_27 : decode cX9_feed 27 = .ok (.invokevirtual 177, 3) := by decide +kernel
theorem dX9_feed_30 : decode cX9_feed 30 = .ok (.aload_n 0, 1) := by decide +kernel
theorem dX9_feed_31 : decode cX9_feed 31 = .ok (.iload_n 3, 1) := by decide +kernel
theorem dX9_feed_32 : decode cX9_feed 32 = .ok (.invokevirtual 177, 3) := by decide +kernel
theorem dX9_feed_35 : decode cX9_feed 35 = .ok (.aload_n 0, 1) := by decide +kernel
theorem dX9_feed_36 : decode cX9_feed 36 = .ok (.iload 4, 2) := by decide +kernel
theorem dX9_feed_38 : decode cX9_feed 38 = .ok (.invokevirtual 177, 3) := by decide +kernel
theorem dX9_feed_41 : decode cX9_feed 41 = .ok (.aload_n 0, 1) := by decide +kernel
theorem dX9_feed_42 : decode cX9_feed 42 = .ok (.iload 5, 2) := by decide +kernel
theorem dX9_feed_44 : decode cX9_feed 44 = .ok (.invokevirtual 177, 3) := by decide +kernel
theorem dX9_feed_47 : decode cX9_feed 47 = .ok (.aload_n 0, 1) := by decide +kernel
theorem dX9_feed_48 : decode cX9_feed 48 = .ok (.getfield 171, 3) := by decide +kernel
theorem dX9_feed_51 : decode cX9_feed 51 = .ok (.ireturn, 1) := by decide +kernel
def bX9_feed_0 (l : Launch) (E : Ev) (d : Nat) (Q : Option Value → Hp → Prop) : Kt := k_aload 0 (k_push (.int 0) (k_putI 9 55 0 (k_aload 0 (k_getI 9 55 8 (k_push (.int 20) (k_iadd (k_push (.int 400) (k_icmp_le (k_aload 0 (k_iload 1 (k_callV l E 9 55 YX9_four d 0 0 1 (k_aload 0 (k_iload 2 (k_callV l E 9 55 YX9_four d 0 0 1 (k_aload 0 (k_iload 3 (k_callV l E 9 55 YX9_four d 0 0 1 (k_aload 0 (k_iload 4 (k_callV l E 9 55 YX9_four d 0 0 1 (k_aload 0 (k_iload 5 (k_callV l E 9 55 YX9_four d 0 0 1 (k_aload 0 (k_getI 9 55 8 (k_iret .int Q)))))))))))))))))) (k_push (.int (-1)) (k_iret .int Q))))))))))
set_option maxRecDepth 100000 in
set_option maxHeartbeats 4000000 in
theorem gX9_feed_0 {l : Launch} {E : Ev} {d : Nat} {Q : Option Value → Hp → Prop} {ls : Lv} {st : List Value} {h : Hp} (hB : bX9_feed_0 l E d Q ls st h) : Go l E YX9_feed (d + 1) 0 0 Q 0 0 0 ls st h :=
  (sd_aload_n (i := 0) rfl dX9_feed_0 (sd_iconst (v := 0) (by decide) dX9_feed_1 (sd_putI clsX9 (f := 0) (by decide) (fun _ _ _ => rfl) rfl (Or.inl rfl) mw_1178 dX9_feed_2 (sd_aload_n (i := 0) rfl dX9_feed_5 (sd_getI clsX9 (f := 8) (by decide) (fun _ _ _ => rfl) mw_1186 dX9_feed_6 (sd_bipush (v := 20) (by decide) dX9_feed_9 (sd_iadd dX9_feed_11 (sd_sipush (v := 400) (by decide) dX9_feed_12 (sd_icmp_le (tgt := 20) (by decide) dX9_feed_15 (sd_aload_n (i := 0) rfl dX9_feed_20 (sd_iload_n (i := 1) rfl dX9_feed_21 (sd_callV (Y' := YX9_four) (mc' := 0) (ms' := 0) (n := 1) clsX9.1 mw_1434 mw_1436 mw_51 mw_108 mw_1437 rfl (okmX9_four) (by decide) (Nat.le_refl _) (by decide) (by decide) dX9_feed_22 (sd_aload_n (i := 0) rfl dX9_feed_25 (sd_iload_n (i := 2) rfl dX9_feed_26 (sd_callV (Y' := YX9_four) (mc' := 0) (ms' := 0) (n := 1) clsX9.1 mw_1434 mw_1436 mw_51 mw_108 mw_1437 rfl (okmX9_four) (by decide) (Nat.le_refl _) (by decide) (by decide) dX9_feed_27 (sd_aload_n (i := 0) rfl dX9_feed_30 (sd_iload_n (i := 3) rfl dX9_feed_31 (sd_callV (Y' := YX9_four) (mc' := 0) (ms' := 0) (n := 1) clsX9.1 mw_1434 mw_1436 mw_51 mw_108 mw_1437 rfl (okmX9_four) (by decide) (Nat.le_refl _) (by decide) (by decide) dX9_feed_32 (sd_aload_n (i := 0) rfl dX9_feed_35 (sd_iload (n := 4) dX9_feed_36 (sd_callV (Y' := YX9_four) (mc' := 0) (ms' := 0) (n := 1) clsX9.1 mw_1434 mw_1436 mw_51 mw_108 mw_1437 rfl (okmX9_four) (by decide) (Nat.le_refl _) (by decide) (by decide) dX9_feed_38 (sd_aload_n (i := 0) rfl dX9_feed_41 (sd_iload (n := 5) dX9_feed_42 (sd_callV (Y' := YX9_four) (mc' := 0) (ms' := 0) (n := 1) clsX9.1 mw_1434 mw_1436 mw_51 mw_108 mw_1437 rfl (okmX9_four) (by decide) (Nat.le_refl _) (by decide) (by decide) dX9_feed_44 (sd_aload_n (i := 0) rfl dX9_feed_47 (sd_getI clsX9 (f := 8) (by decide) (fun _ _ _ => rfl) mw_1186 dX9_feed_48 (sd_iret (ty := .int) rfl (by decide) (by decide) dX9_feed_51)))))))))))))))))) (sd_iconst (v := (-1)) (by decide) dX9_feed_18 (sd_iret (ty := .int) rfl (by decide) (by decide) dX9_feed_19)))))))))) : Sd l E YX9_feed (d + 1) 0 0 Q 0 0 0 (bX9_feed_0 l E d Q)) ls st h hB
theorem eX9_feed {l : Launch} {E : Ev} {d : Nat} {Q : Option Value → Hp → Prop} {h : Hp} {a0 : Nat} {x1 : Int32} {x2 : Int32} {x3 : Int32} {x4 : Int32} {x5 : Int32} (hk : Go l E YX9_feed d 0 0 Q 0 0 0 [some (.ref a0), some (.int x1), some (.int x2), some (.int x3), some (.int x4), some (.int x5)] [] h) : GoM l E YX9_feed d 0 0 [.ref a0, .int x1, .int x2, .int x3, .int x4, .int x5] h Q := GoM.of (by decide +kernel) rfl (by simp [entA, YX9_feed]) hk
theorem dX9_end_0 : decode cX9_end 0 = .ok (.aload_n 0, 1) := by decide +kernel
theorem dX9_end_1 : decode cX9_end 1 = .ok (.iconst 0, 1) := by decide +kernel
theorem dX9_end_2 : decode cX9_end 2 = .ok (.putfield 123, 3) := by decide +kernel
theorem dX9_end_5 : decode cX9_end 5 = .ok (.iload_n 1, 1) := by decide +kernel
theorem dX9_end_6 : decode cX9_end 6 = .ok (.ifCond .lt 11, 3) := by decide +kernel
theorem dX9_end_9 : decode cX9_end 9 = .ok (.iload_n 1, 1) := by decide +kernel
theorem dX9_end_10 : decode cX9_end 10 = .ok (.aload_n 0, 1) := by decide +kernel
theorem dX9_end_11 : decode cX9_end 11 = .ok (.getfield 171, 3) := by decide +kernel
theorem dX9_end_14 : decode cX9_end 14 = .ok (.if_icmp .le 5, 3) := by decide +kernel
theorem dX9_end_17 : decode cX9_end 17 = .ok (.iconst (-1), 1) := by decide +kernel
theorem dX9_end_18 : decode cX9_end 18 = .ok (.ireturn, 1) := by decide +kernel
theorem dX9_end_19 : decode cX9_end 19 = .ok (.aload_n 0, 1) := by decide +kernel
theorem dX9_end_20 : decode cX9_end 20 = .ok (.iload_n 1, 1) := by decide +kernel
theorem dX9_end_21 : decode cX9_end 21 = .ok (.putfield 171, 3) := by decide +kernel
theorem dX9_end_24 : decode cX9_end 24 = .ok (.iload_n 1, 1) := by decide +kernel
theorem dX9_end_25 : decode cX9_end 25 = .ok (.ireturn, 1) := by decide +kernel
def bX9_end_0 (l : Launch) (E : Ev) (d : Nat) (Q : Option Value → Hp → Prop) : Kt := k_aload 0 (k_push (.int 0) (k_putI 9 55 0 (k_iload 1 (k_if_lt (k_push (.int (-1)) (k_iret .int Q)) (k_iload 1 (k_aload 0 (k_getI 9 55 8 (k_icmp_le (k_aload 0 (k_iload 1 (k_putI 9 55 8 (k_iload 1 (k_iret .int Q))))) (k_push (.int (-1)) (k_iret .int Q))))))))))
set_option maxRecDepth 100000 in
set_option maxHeartbeats 4000000 in
theorem gX9_end_0 {l : Launch} {E : Ev} {d : Nat} {Q : Option Value → Hp → Prop} {ls : Lv} {st : List Value} {h : Hp} (hB : bX9_end_0 l E d Q ls st h) : Go l E YX9_end (d + 1) 0 0 Q 0 0 0 ls st h :=
  (sd_aload_n (i := 0) rfl dX9_end_0 (sd_iconst (v := 0) (by decide) dX9_end_1 (sd_putI clsX9 (f := 0) (by decide) (fun _ _ _ => rfl) rfl (Or.inl rfl) mw_1178 dX9_end_2 (sd_iload_n (i := 1) rfl dX9_end_5 (sd_if_lt (tgt := 17) (by decide) dX9_end_6 (sd_iconst (v := (-1)) (by decide) dX9_end_17 (sd_iret (ty := .int) rfl (by decide) (by decide) dX9_end_18)) (sd_iload_n (i := 1) rfl dX9_end_9 (sd_aload_n (i := 0) rfl dX9_end_10 (sd_getI clsX9 (f := 8) (by decide) (fun _ _ _ => rfl) mw_1186 dX9_end_11 (sd_icmp_le (tgt := 19) (by decide) dX9_end_14 (sd_aload_n (i := 0) rfl dX9_end_19 (sd_iload_n (i := 1) rfl dX9_end_20 (sd_putI clsX9 (f := 8) (by decide) (fun _ _ _ => rfl) rfl (Or.inl rfl) mw_1186 dX9_end_21 (sd_iload_n (i := 1) rfl dX9_end_24 (sd_iret (ty := .int) rfl (by decide) (by decide) dX9_end_25))))) (sd_iconst (v := (-1)) (by decide) dX9_end_17 (sd_iret (ty := .int) rfl (by decide) (by decide) dX9_end_18)))))))))) : Sd l E YX9_end (d + 1) 0 0 Q 0 0 0 (bX9_end_0 l E d Q)) ls st h hB
theorem eX9_end {l : Launch} {E : Ev} {d : Nat} {Q : Option Value → Hp → Prop} {h : Hp} {a0 : Nat} {x1 : Int32} (hk : Go l E YX9_end d 0 0 Q 0 0 0 [some (.ref a0), some (.int x1)] [] h) : GoM l E YX9_end d 0 0 [.ref a0, .int x1] h Q := GoM.of (by decide +kernel) rfl (by simp [entA, YX9_end]) hk
theorem dX9_isSmall_0 : decode cX9_isSmall 0 = .ok (.iload_n 0, 1) := by decide +kernel
theorem dX9_isSmall_1 : decode cX9_isSmall 1 = .ok (.bipush 97, 2) := by decide +kernel
theorem dX9_isSmall_3 : decode cX9_isSmall 3 = .ok (.if_icmp .lt 13, 3) := by decide +kernel
theorem dX9_isSmall_6 : decode cX9_isSmall 6 = .ok (.iload_n 0, 1) := by decide +kernel
theorem dX9_isSmall_7 : decode cX9_isSmall 7 = .ok (.bipush 122, 2) := by decide +kernel
theorem dX9_isSmall_9 : decode cX9_isSmall 9 = .ok (.if_icmp .gt 7, 3) := by decide +kernel
theorem dX9_isSmall_12 : decode cX9_isSmall 12 = .ok (.iconst 1, 1) := by decide +kernel
theorem dX9_isSmall_13 : decode cX9_isSmall 13 = .ok (.goto 4, 3) := by decide +kernel
theorem dX9_isSmall_16 : decode cX9_isSmall 16 = .ok (.iconst 0, 1) := by decide +kernel
theorem dX9_isSmall_17 : decode cX9_isSmall 17 = .ok (.ireturn, 1) := by decide +kernel
def bX9_isSmall_0 (l : Launch) (E : Ev) (d : Nat) (Q : Option Value → Hp → Prop) : Kt := k_iload 0 (k_push (.int 97) (k_icmp_lt (k_push (.int 0) (k_iret .boolean Q)) (k_iload 0 (k_push (.int 122) (k_icmp_gt (k_push (.int 0) (k_iret .boolean Q)) (k_push (.int 1) (k_iret .boolean Q)))))))
set_option maxRecDepth 100000 in
set_option maxHeartbeats 4000000 in
theorem gX9_isSmall_0 {l : Launch} {E : Ev} {d : Nat} {Q : Option Value → Hp → Prop} {ls : Lv} {st : List Value} {h : Hp} (hB : bX9_isSmall_0 l E d Q ls st h) : Go l E YX9_isSmall (d + 1) 0 0 Q 0 0 0 ls st h :=
  (sd_iload_n (i := 0) rfl dX9_isSmall_0 (sd_bipush (v := 97) (by decide) dX9_isSmall_1 (sd_icmp_lt (tgt := 16) (by decide) dX9_isSmall_3 (sd_iconst (v := 0) (by decide) dX9_isSmall_16 (sd_iret (ty := .boolean) rfl (by decide) (by decide) dX9_isSmall_17)) (sd_iload_n (i := 0) rfl dX9_isSmall_6 (sd_bipush (v := 122) (by decide) dX9_isSmall_7 (sd_icmp_gt (tgt := 16) (by decide) dX9_isSmall_9 (sd_iconst (v := 0) (by decide) dX9_isSmall_16 (sd_iret (ty := .boolean) rfl (by decide) (by decide) dX9_isSmall_17)) (sd_iconst (v := 1) (by decide) dX9_isSmall_12 (sd_goto (tgt := 17) (by decide) dX9_isSmall_13 (sd_iret (ty := .boolean) rfl (by decide) (by decide) dX9_isSmall_17)))))))) : Sd l E YX9_isSmall (d + 1) 0 0 Q 0 0 0 (bX9_isSmall_0 l E d Q)) ls st h hB
theorem eX9_isSmall {l : Launch} {E : Ev} {d : Nat} {Q : Option Value → Hp → Prop} {h : Hp} {x1 : Int32} (hk : Go l E YX9_isSmall d 0 0 Q 0 0 0 [some (.int x1)] [] h) : GoM l E YX9_isSmall d 0 0 [.int x1] h Q := GoM.of (by decide +kernel) rfl (by simp [entA, YX9_isSmall]) hk
theorem dX9_isDigit_0 : decode cX9_isDigit 0 = .ok (.iload_n 0, 1) := by decide +kernel
theorem dX9_isDigit_1 : decode cX9_isDigit 1 = .ok (.bipush 48, 2) := by decide +kernel
theorem dX9_isDigit_3 : decode cX9_isDigit 3 = .ok (.if_icmp .lt 13, 3) := by decide +kernel
theorem dX9_isDigit_6 : decode cX9_isDigit 6 = .ok (.iload_n 0, 1) := by decide +kernel
theorem dX9_isDigit_7 : decode cX9_isDigit 7 = .ok (.bipush 57, 2) := by decide +kernel
theorem dX9_isDigit_9 : decode cX9_isDigit 9 = .ok (.if_icmp .gt 7, 3) := by decide +kernel
theorem dX9_isDigit_12 : decode cX9_isDigit 12 = .ok (.iconst 1, 1) := by decide +kernel
theorem dX9_isDigit_13 : decode cX9_isDigit 13 = .ok (.goto 4, 3) := by decide +kernel
theorem dX9_isDigit_16 : decode cX9_isDigit 16 = .ok (.iconst 0, 1) := by decide +kernel
theorem dX9_isDigit_17 : decode cX9_isDigit 17 = .ok (.ireturn, 1) := by decide +kernel
def bX9_isDigit_0 (l : Launch) (E : Ev) (d : Nat) (Q : Option Value → Hp → Prop) : Kt := k_iload 0 (k_push (.int 48) (k_icmp_lt (k_push (.int 0) (k_iret .boolean Q)) (k_iload 0 (k_push (.int 57) (k_icmp_gt (k_push (.int 0) (k_iret .boolean Q)) (k_push (.int 1) (k_iret .boolean Q)))))))
set_option maxRecDepth 100000 in
set_option maxHeartbeats 4000000 in
theorem gX9_isDigit_0 {l : Launch} {E : Ev} {d : Nat} {Q : Option Value → Hp → Prop} {ls : Lv} {st : List Value} {h : Hp} (hB : bX9_isDigit_0 l E d Q ls st h) : Go l E YX9_isDigit (d + 1) 0 0 Q 0 0 0 ls st h :=
  (sd_iload_n (i := 0) rfl dX9_isDigit_0 (sd_bipush (v := 48) (by decide) dX9_isDigit_1 (sd_icmp_lt (tgt := 16) (by decide) dX9_isDigit_3 (sd_iconst (v := 0) (by decide) dX9_isDigit_16 (sd_iret (ty := .boolean) rfl (by decide) (by decide) dX9_isDigit_17)) (sd_iload_n (i := 0) rfl dX9_isDigit_6 (sd_bipush (v := 57) (by decide) dX9_isDigit_7 (sd_icmp_gt (tgt := 16) (by decide) dX9_isDigit_9 (sd_iconst (v := 0) (by decide) dX9_isDigit_16 (sd_iret (ty := .boolean) rfl (by decide) (by decide) dX9_isDigit_17)) (sd_iconst (v := 1) (by decide) dX9_isDigit_12 (sd_goto (tgt := 17) (by decide) dX9_isDigit_13 (sd_iret (ty := .boolean) rfl (by decide) (by decide) dX9_isDigit_17)))))))) : Sd l E YX9_isDigit (d + 1) 0 0 Q 0 0 0 (bX9_isDigit_0 l E d Q)) ls st h hB
theorem eX9_isDigit {l : Launch} {E : Ev} {d : Nat} {Q : Option Value → Hp → Prop} {h : Hp} {x1 : Int32} (hk : Go l E YX9_isDigit d 0 0 Q 0 0 0 [some (.int x1)] [] h) : GoM l E YX9_isDigit d 0 0 [.int x1] h Q := GoM.of (by decide +kernel) rfl (by simp [entA, YX9_isDigit]) hk
theorem dX9_begin_0 : decode cX9_begin 0 = .ok (.aload_n 0, 1) := by decide +kernel
theorem dX9_begin_1 : decode cX9_begin 1 = .ok (.iconst 0, 1) := by decide +kernel
theorem dX9_begin_2 : decode cX9_begin 2 = .ok (.putfield 181, 3) := by decide +kernel
theorem dX9_begin_5 : decode cX9_begin 5 = .ok (.aload_n 0, 1) := by decide +kernel
theorem dX9_begin_6 : decode cX9_begin 6 = .ok (.iconst 0, 1) := by decide +kernel
theorem dX9_begin_7 : decode cX9_begin 7 = .ok (.putfield 184, 3) := by decide +kernel
theorem dX9_begin_10 : decode cX9_begin 10 = .ok (.aload_n 0, 1) := by decide +kernel
theorem dX9_begin_11 : decode cX9_begin 11 = .ok (.iconst (-1), 1) := by decide +kernel
theorem dX9_begin_12 : decode cX9_begin 12 = .ok (.putfield 26, 3) := by decide +kernel
theorem dX9_begin_15 : decode cX9_begin 15 = .ok (.aload_n 0, 1) := by decide +kernel
theorem dX9_begin_16 : decode cX9_begin 16 = .ok (.invokevirtual 188, 3) := by decide +kernel
theorem dX9_begin_19 : decode cX9_begin 19 = .ok (.return_, 1) := by decide +kernel
def bX9_begin_0 (l : Launch) (E : Ev) (d : Nat) (Q : Option Value → Hp → Prop) : Kt := k_aload 0 (k_push (.int 0) (k_putI 9 55 10 (k_aload 0 (k_push (.int 0) (k_putZ 9 55 14 (k_aload 0 (k_push (.int (-1)) (k_putI 9 55 13 (k_aload 0 (k_callV l E 9 55 YX9_next d 0 0 0 (k_vret Q)))))))))))
set_option maxRecDepth 100000 in
set_option maxHeartbeats 4000000 in
theorem gX9_begin_0 {l : Launch} {E : Ev} {d : Nat} {Q : Option Value → Hp → Prop} {ls : Lv} {st : List Value} {h : Hp} (hB : bX9_begin_0 l E d Q ls st h) : Go l E YX9_begin (d + 1) 0 0 Q 0 0 0 ls st h :=
  (sd_aload_n (i := 0) rfl dX9_begin_0 (sd_iconst (v := 0) (by decide) dX9_begin_1 (sd_putI clsX9 (f := 10) (by decide) (fun _ _ _ => rfl) rfl (Or.inl rfl) mw_1188 dX9_begin_2 (sd_aload_n (i := 0) rfl dX9_begin_5 (sd_iconst (v := 0) (by decide) dX9_begin_6 (sd_putZ clsX9 (f := 14) (by decide) (fun _ _ _ => rfl) rfl (Or.inl rfl) mw_1192 dX9_begin_7 (sd_aload_n (i := 0) rfl dX9_begin_10 (sd_iconst (v := (-1)) (by decide) dX9_begin_11 (sd_putI clsX9 (f := 13) (by decide) (fun _ _ _ => rfl) rfl (Or.inl rfl) mw_1191 dX9_begin_12 (sd_aload_n (i := 0) rfl dX9_begin_15 (sd_callV (Y' := YX9_next) (mc' := 0) (ms' := 0) (n := 0) clsX9.1 mw_1454 mw_1456 mw_53 mw_108 mw_1457 rfl (okmX9_next) (by decide) (Nat.le_refl _) (by decide) (by decide) dX9_begin_16 (sd_vret rfl (by decide) (by decide) dX9_begin_19))))))))))) : Sd l E YX9_begin (d + 1) 0 0 Q 0 0 0 (bX9_begin_0 l E d Q)) ls st h hB
theorem eX9_begin {l : Launch} {E : Ev} {d : Nat} {Q : Option Value → Hp → Prop} {h : Hp} {a0 : Nat} (hk : Go l E YX9_begin d 0 0 Q 0 0 0 [some (.ref a0)] [] h) : GoM l E YX9_begin d 0 0 [.ref a0] h Q := GoM.of (by decide +kernel) rfl (by simp [entA, YX9_begin]) hk
theorem dX9_next_0 : decode cX9_next 0 = .ok (.aload_n 0, 1) := by decide +kernel
theorem dX9_next_1 : decode cX9_next 1 = .ok (.aload_n 0, 1) := by decide +kernel
theorem dX9_next_2 : decode cX9_next 2 = .ok (.getfield 181, 3) := by decide +kernel
theorem dX9_next_5 : decode cX9_next 5 = .ok (.putfield 191, 3) := by decide +kernel
theorem dX9_next_8 : decode cX9_next 8 = .ok (.aload_n 0, 1) := by decide +kernel
theorem dX9_next_9 : decode cX9_next 9 = .ok (.getfield 191, 3) := by decide +kernel
theorem dX9_next_12 : decode cX9_next 12 = .ok (.aload_n 0, 1) := by decide +kernel
theorem dX9_next_13 : decode cX9_next 13 = .ok (.getfield 171, 3) := by decide +kernel
theorem dX9_next_16 : decode cX9_next 16 = .ok (.if_icmp .ge 30, 3) := by decide +kernel
theorem dX9_next_19 : decode cX9_next 19 = .ok (.aload_n 0, 1) := by decide +kernel
theorem dX9_next_20 : decode cX9_next 20 = .ok (.getfield 23, 3) := by decide +kernel
theorem dX9_next_23 : decode cX9_next 23 = .ok (.aload_n 0, 1) := by decide +kernel
theorem dX9_next_24 : decode cX9_next 24 = .ok (.getfield 191, 3) := by decide +kernel
theorem dX9_next_27 : decode cX9_next 27 = .ok (.iaload, 1) := by decide +kernel
theorem dX9_next_28 : decode cX9_next 28 = .ok (.bipush 32, 2) := by decide +kernel
theorem dX9_next_30 : decode cX9_next 30 = .ok (.if_icmp .ne 16, 3) := by decide +kernel
theorem dX9_next_33 : decode cX9_next 33 = .ok (.aload_n 0, 1) := by decide +kernel
theorem dX9_next_34 : decode cX9_next 34 = .ok (.dup, 1) := by decide +kernel
theorem dX9_next_35 : decode cX9_next 35 = .ok (.getfield 191, 3) := by decide +kernel
theorem dX9_next_38 : decode cX9_next 38 = .ok (.iconst 1, 1) := by decide +kernel
theorem dX9_next_39 : decode cX9_next 39 = .ok (.iadd, 1) := by decide +kernel
theorem dX9_next_40 : decode cX9_next 40 = .ok (.putfield 191, 3) := by decide +kernel
theorem dX9_next_43 : decode cX9_next 43 = .ok (.goto (-35), 3) := by decide +kernel
theorem dX9_next_46 : decode cX9_next 46 = .ok (.aload_n 0, 1) := by decide +kernel
theorem dX9_next_47 : decode cX9_next 47 = .ok (.aload_n 0, 1) := by decide +kernel
theorem dX9_next_48 : decode cX9_next 48 = .ok (.getfield 191, 3) := by decide +kernel
theorem dX9_next_51 : decode cX9_next 51 = .ok (.putfield 181, 3) := by decide +kernel
theorem dX9_next_54 : decode cX9_next 54 = .ok (.aload_n 0, 1) := by decide +kernel
theorem dX9_next_55 : decode cX9_next 55 = .ok (.lconst 0, 1) := by decide +kernel
theorem dX9_next_56 : decode cX9_next 56 = .ok (.putfield 194, 3) := by decide +kernel
theorem dX9_next_59 : decode cX9_next 59 = .ok (.aload_n 0, 1) := by decide +kernel
theorem dX9_next_60 : decode cX9_next 60 = .ok (.aload_n 0, 1) := by decide +kernel
theorem dX9_next_61 : decode cX9_next 61 = .ok (.getfield 191, 3) := by decide +kernel
theorem dX9_next_64 : decode cX9_next 64 = .ok (.aload_n 0, 1) := by decide +kernel
theorem dX9_next_65 : decode cX9_next 65 = .ok (.getfield 171, 3) := by decide +kernel
theorem dX9_next_68 : decode cX9_next 68 = .ok (.if_icmp .ne 7, 3) := by decide +kernel
theorem dX9_next_71 : decode cX9_next 71 = .ok (.iconst 0, 1) := by decide +kernel
theorem dX9_next_72 : decode cX9_next 72 = .ok (.goto 42, 3) := by decide +kernel
theorem dX9_next_75 : decode cX9_next 75 = .ok (.aload_n 0, 1) := by decide +kernel
theorem dX9_next_76 : decode cX9_next 76 = .ok (.getfield 23, 3) := by decide +kernel
theorem dX9_next_79 : decode cX9_next 79 = .ok (.aload_n 0, 1) := by decide +kernel
theorem dX9_next_80 : decode cX9_next 80 = .ok (.getfield 191, 3) := by decide +kernel
theorem dX9_next_83 : decode cX9_next 83 = .ok (.iaload, 1) := by decide +kernel
theorem dX9_next_84 : decode cX9_next 84 = .ok (.invokestatic 198, 3) := by decide +kernel
theorem dX9_next_87 : decode cX9_next 87 = .ok (.ifCond .eq 7, 3) := by decide +kernel
theorem dX9_next_90 : decode cX9_next 90 = .ok (.iconst 1, 1) := by decide +kernel
theorem dX9_next_91 : decode cX9_next 91 = .ok (.goto 23, 3) := by decide +kernel
theorem dX9_next_94 : decode cX9_next 94 = .ok (.aload_n 0, 1) := by decide +kernel
theorem dX9_next_95 : decode cX9_next 95 = .ok (.getfield 23, 3) := by decide +kernel
theorem dX9_next_98 : decode cX9_next 98 = .ok (.aload_n 0, 1) := by decide +kernel
theorem dX9_next_99 : decode cX9_next 99 = .ok (.getfield 191, 3) := by decide +kernel
theorem dX9_next_102 : decode cX9_next 102 = .ok (.iaload, 1) := by decide +kernel
theorem dX9_next_103 : decode cX9_next 103 = .ok (.invokestatic 201, 3) := by decide +kernel
theorem dX9_next_106 : decode cX9_next 106 = .ok (.ifCond .eq 7, 3) := by decide +kernel
theorem dX9_next_109 : decode cX9_next 109 = .ok (.iconst 2, 1) := by decide +kernel
theorem dX9_next_110 : decode cX9_next 110 = .ok (.goto 4, 3) := by decide +kernel
theorem dX9_next_113 : decode cX9_next 113 = .ok (.iconst 3, 1) := by decide +kernel
theorem dX9_next_114 : decode cX9_next 114 = .ok (.putfield 204, 3) := by decide +kernel
theorem dX9_next_117 : decode cX9_next 117 = .ok (.aload_n 0, 1) := by decide +kernel
theorem dX9_next_118 : decode cX9_next 118 = .ok (.getfield 204, 3) := by decide +kernel
theorem dX9_next_121 : decode cX9_next 121 = .ok (.iconst 3, 1) := by decide +kernel
theorem dX9_next_122 : decode cX9_next 122 = .ok (.if_icmp .ne 27, 3) := by decide +kernel
theorem dX9_next_125 : decode cX9_next 125 = .ok (.aload_n 0, 1) := by decide +kernel
theorem dX9_next_126 : decode cX9_next 126 = .ok (.aload_n 0, 1) := by decide +kernel
theorem dX9_next_127 : decode cX9_next 127 = .ok (.getfield 23, 3) := by decide +kernel
theorem dX9_next_130 : decode cX9_next 130 = .ok (.aload_n 0, 1) := by decide +kernel
theorem dX9_next_131 : decode cX9_next 131 = .ok (.getfield 191, 3) := by decide +kernel
theorem dX9_next_134 : decode cX9_next 134 = .ok (.iaload, 1) := by decide +kernel
theorem dX9_next_135 : decode cX9_next 135 = .ok (.i2l, 1) := by decide +kernel
theorem dX9_next_136 : decode cX9_next 136 = .ok (.putfield 194, 3) := by decide +kernel
theorem dX9_next_139 : decode cX9_next 139 = .ok (.aload_n 0, 1) := by decide +kernel
theorem dX9_next_140 : decode cX9_next 140 = .ok (.dup, 1) := by decide +kernel
theorem dX9_next_141 : decode cX9_next 141 = .ok (.getfield 181, 3) := by decide +kernel
theorem dX9_next_144 : decode cX9_next 144 = .ok (.iconst 1, 1) := by decide +kernel
theorem dX9_next_145 : decode cX9_next 145 = .ok (.iadd, 1) := by decide +kernel
theorem dX9_next_146 : decode cX9_next 146 = .ok (.putfield 181, 3) := by decide +kernel
theorem dX9_next_149 : decode cX9_next 149 = .ok (.aload_n 0, 1) := by decide +kernel
theorem dX9_next_150 : decode cX9_next 150 = .ok (.getfield 204, 3) := by decide +kernel
theorem dX9_next_153 : decode cX9_next 153 = .ok (.iconst 1, 1) := by decide +kernel
theorem dX9_next_154 : decode cX9_next 154 = .ok (.if_icmp .ne 89, 3) := by decide +kernel
theorem dX9_next_157 : decode cX9_next 157 = .ok (.aload_n 0, 1) := by decide +kernel
theorem dX9_next_158 : decode cX9_next 158 = .ok (.getfield 181, 3) := by decide +kernel
theorem dX9_next_161 : decode cX9_next 161 = .ok (.aload_n 0, 1) := by decide +kernel
theorem dX9_next_162 : decode cX9_next 162 = .ok (.getfield 171, 3) := by decide +kernel
theorem dX9_next_165 : decode cX9_next 165 = .ok (.if_icmp .ge 78, 3) := by decide +kernel
theorem dX9_next_168 : decode cX9_next 168 = .ok (.aload_n 0, 1) := by decide +kernel
theorem dX9_next_169 : decode cX9_next 169 = .ok (.getfield 23, 3) := by decide +kernel
theorem dX9_next_172 : decode cX9_next 172 = .ok (.aload_n 0, 1) := by decide +kernel
theorem dX9_next_173 : decode cX9_next 173 = .ok (.getfield 181, 3) := by decide +kernel
theorem dX9_next_176 : decode cX9_next 176 = .ok (.iaload, 1) := by decide +kernel
theorem dX9_next_177 : decode cX9_next 177 = .ok (.invokestatic 198, 3) := by decide +kernel
theorem dX9_next_180 : decode cX9_next 180 = .ok (.ifCond .eq 63, 3) := by decide +kernel
theorem dX9_next_183 : decode cX9_next 183 = .ok (.aload_n 0, 1) := by decide +kernel
theorem dX9_next_184 : decode cX9_next 184 = .ok (.aload_n 0, 1) := by decide +kernel
theorem dX9_next_185 : decode cX9_next 185 = .ok (.getfield 181, 3) := by decide +kernel
theorem dX9_next_188 : decode cX9_next 188 = .ok (.aload_n 0, 1) := by decide +kernel
theorem dX9_next_189 : decode cX9_next 189 = .ok (.getfield 191, 3) := by decide +kernel
theorem dX9_next_192 : decode cX9_next 192 = .ok (.isub, 1) := by decide +kernel
theorem dX9_next_193 : decode cX9_next 193 = .ok (.bipush 10, 2) := by decide +kernel
theorem dX9_next_195 : decode cX9_next 195 = .ok (.if_icmp .ge 29, 3) := by decide +kernel
theorem dX9_next_198 : decode cX9_next 198 = .ok (.aload_n 0, 1) := by decide +kernel
theorem dX9_next_199 : decode cX9_next 199 = .ok (.getfield 194, 3) := by decide +kernel
theorem dX9_next_202 : decode cX9_next 202 = .ok (.ldc2_w 207, 3) := by decide +kernel
theorem dX9_next_205 : decode cX9_next 205 = .ok (.lmul, 1) := by decide +kernel
theorem dX9_next_206 : decode cX9_next 206 = .ok (.aload_n 0, 1) := by decide +kernel
theorem dX9_next_207 : decode cX9_next 207 = .ok (.getfield 23, 3) := by decide +kernel
theorem dX9_next_210 : decode cX9_next 210 = .ok (.aload_n 0, 1) := by decide +kernel
theorem dX9_next_211 : decode cX9_next 211 = .ok (.getfield 181, 3) := by decide +kernel
theorem dX9_next_214 : decode cX9_next 214 = .ok (.iaload, 1) := by decide +kernel
theorem dX9_next_215 : decode cX9_next 215 = .ok (.i2l, 1) := by decide +kernel
theorem dX9_next_216 : decode cX9_next 216 = .ok (.ladd, 1) := by decide +kernel
theorem dX9_next_217 : decode cX9_next 217 = .ok (.ldc2_w 209, 3) := by decide +kernel
theorem dX9_next_220 : decode cX9_next 220 = .ok (.lsub, 1) := by decide +kernel
theorem dX9_next_221 : decode cX9_next 221 = .ok (.goto 6, 3) := by decide +kernel
theorem dX9_next_224 : decode cX9_next 224 = .ok (.ldc2_w 211, 3) := by decide +kernel
theorem dX9_next_227 : decode cX9_next 227 = .ok (.putfield 194, 3) := by decide +kernel
theorem dX9_next_230 : decode cX9_next 230 = .ok (.aload_n 0, 1) := by decide +kernel
theorem dX9_next_231 : decode cX9_next 231 = .ok (.dup, 1) := by decide +kernel
theorem dX9_next_232 : decode cX9_next 232 = .ok (.getfield 181, 3) := by decide +kernel
theorem dX9_next_235 : decode cX9_next 235 = .ok (.iconst 1, 1) := by decide +kernel
theorem dX9_next_236 : decode cX9_next 236 = .ok (.iadd, 1) := by decide +kernel
theorem dX9_next_237 : decode cX9_next 237 = .ok (.putfield 181, 3) := by decide +kernel
theorem dX9_next_240 : decode cX9_next 240 = .ok (.goto (-91), 3) := by decide +kernel
theorem dX9_next_243 : decode cX9_next 243 = .ok (.aload_n 0, 1) := by decide +kernel
theorem dX9_next_244 : decode cX9_next 244 = .ok (.getfield 204, 3) := by decide +kernel
theorem dX9_next_247 : decode cX9_next 247 = .ok (.iconst 2, 1) := by decide +kernel
theorem dX9_next_248 : decode cX9_next 248 = .ok (.if_icmp .ne 87, 3) := by decide +kernel
theorem dX9_next_251 : decode cX9_next 251 = .ok (.aload_n 0, 1) := by decide +kernel
theorem dX9_next_252 : decode cX9_next 252 = .ok (.getfield 181, 3) := by decide +kernel
theorem dX9_next_255 : decode cX9_next 255 = .ok (.aload_n 0, 1) := by decide +kernel
theorem dX9_next_256 : decode cX9_next 256 = .ok (.getfield 171, 3) := by decide +kernel
theorem dX9_next_259 : decode cX9_next 259 = .ok (.if_icmp .ge 76, 3) := by decide +kernel
theorem dX9_next_262 : decode cX9_next 262 = .ok (.aload_n 0, 1) := by decide +kernel
theorem dX9_next_263 : decode cX9_next 263 = .ok (.getfield 23, 3) := by decide +kernel
theorem dX9_next_266 : decode cX9_next 266 = .ok (.aload_n 0, 1) := by decide +kernel
theorem dX9_next_267 : decode cX9_next 267 = .ok (.getfield 181, 3) := by decide +kernel
theorem dX9_next_270 : decode cX9_next 270 = .ok (.iaload, 1) := by decide +kernel
theorem dX9_next_271 : decode cX9_next 271 = .ok (.invokestatic 201, 3) := by decide +kernel
theorem dX9_next_274 : decode cX9_next 274 = .ok (.ifCond .eq 61, 3) := by decide +kernel
theorem dX9_next_277 : decode cX9_next 277 = .ok (.aload_n 0, 1) := by decide +kernel
theorem dX9_next_278 : decode cX9_next 278 = .ok (.aload_n 0, 1) := by decide +kernel
theorem dX9_next_279 : decode cX9_next 279 = .ok (.getfield 194, 3) := by decide +kernel
theorem dX9_next_282 : decode cX9_next 282 = .ok (.ldc2_w 213, 3) := by decide +kernel
theorem dX9_next_285 : decode cX9_next 285 = .ok (.lcmp, 1) := by decide +kernel
theorem dX9_next_286 : decode cX9_next 286 = .ok (.ifCond .le 10, 3) := by decide +kernel
theorem dX9_next_289 : decode cX9_next 289 = .ok (.aload_n 0, 1) := by decide +kernel
theorem dX9_next_290 : decode cX9_next 290 = .ok (.getfield 194, 3) := by decide +kernel
theorem dX9_next_293 : decode cX9_next 293 = .ok (.goto 26, 3) := by decide +kernel
theorem dX9_next_296 : decode cX9_next 296 = .ok (.aload_n 0, 1) := by decide +kernel
theorem dX9_next_297 : decode cX9_next 297 = .ok (.getfield 194, 3) := by decide +kernel
theorem dX9_next_300 : decode cX9_next 300 = .ok (.ldc2_w 215, 3) := by decide +kernel
theorem dX9_next_303 : decode cX9_next 303 = .ok (.lmul, 1) := by decide +kernel
theorem dX9_next_304 : decode cX9_next 304 = .ok (.aload_n 0, 1) := by decide +kernel
theorem dX9_next_305 : decode cX9_next 305 = .ok (.getfield 23, 3) := by decide +kernel
theorem dX9_next_308 : decode cX9_next 308 = .ok (.aload_n 0, 1) := by decide +kernel
theorem dX9_next_309 : decode cX9_next 309 = .ok (.getfield 181, 3) := by decide +kernel
theorem dX9_next_312 : decode cX9_next 312 = .ok (.iaload, 1) := by decide +kernel
theorem dX9_next_313 : decode cX9_next 313 = .ok (.i2l, 1) := by decide +kernel
theorem dX9_next_314 : decode cX9_next 314 = .ok (.ladd, 1) := by decide +kernel
theorem dX9_next_315 : decode cX9_next 315 = .ok (.ldc2_w 217, 3) := by decide +kernel
theorem dX9_next_318 : decode cX9_next 318 = .ok (.lsub, 1) := by decide +kernel
theorem dX9_next_319 : decode cX9_next 319 = .ok (.putfield 194, 3) := by decide +kernel
theorem dX9_next_322 : decode cX9_next 322 = .ok (.aload_n 0, 1) := by decide +kernel
theorem dX9_next_323 : decode cX9_next 323 = .ok (.dup, 1) := by decide +kernel
theorem dX9_next_324 : decode cX9_next 324 = .ok (.getfield 181, 3) := by decide +kernel
theorem dX9_next_327 : decode cX9_next 327 = .ok (.iconst 1, 1) := by decide +kernel
theorem dX9_next_328 : decode cX9_next 328 = .ok (.iadd, 1) := by decide +kernel
theorem dX9_next_329 : decode cX9_next 329 = .ok (.putfield 181, 3) := by decide +kernel
theorem dX9_next_332 : decode cX9_next 332 = .ok (.goto (-89), 3) := by decide +kernel
theorem dX9_next_335 : decode cX9_next 335 = .ok (.return_, 1) := by decide +kernel
def bX9_next_0 (l : Launch) (E : Ev) (d : Nat) (Q : Option Value → Hp → Prop) : Kt := k_aload 0 (k_aload 0 (k_getI 9 55 10 (k_putI 9 55 9 (Go l E YX9_next (d + 1) 0 0 Q 0 0 8))))
set_option maxRecDepth 100000 in
set_option maxHeartbeats 4000000 in
theorem gX9_next_0 {l : Launch} {E : Ev} {d : Nat} {Q : Option Value → Hp → Prop} {ls : Lv} {st : List Value} {h : Hp} (hB : bX9_next_0 l E d Q ls st h) : Go l E YX9_next (d + 1) 0 0 Q 0 0 0 ls st h :=
  (sd_aload_n (i := 0) rfl dX9_next_0 (sd_aload_n (i := 0) rfl dX9_next_1 (sd_getI clsX9 (f := 10) (by decide) (fun _ _ _ => rfl) mw_1188 dX9_next_2 (sd_putI clsX9 (f := 9) (by decide) (fun _ _ _ => rfl) rfl (Or.inl rfl) mw_1187 dX9_next_5 (Sd.go)))) : Sd l E YX9_next (d + 1) 0 0 Q 0 0 0 (bX9_next_0 l E d Q)) ls st h hB
def bX9_next_8 (l : Launch) (E : Ev) (d : Nat) (Q : Option Value → Hp → Prop) : Kt := k_aload 0 (k_getI 9 55 9 (k_aload 0 (k_getI 9 55 8 (k_icmp_ge (Go l E YX9_next (d + 1) 0 0 Q 0 0 46) (k_aload 0 (k_getR 9 55 7 (k_aload 0 (k_getI 9 55 9 (k_iaload (k_push (.int 32) (k_icmp_ne (Go l E YX9_next (d + 1) 0 0 Q 0 0 46) (k_aload 0 (k_dup (k_getI 9 55 9 (k_push (.int 1) (k_iadd (k_putI 9 55 9 (Go l E YX9_next (d + 1) 0 0 Q 0 0 8))))))))))))))))))
set_option maxRecDepth 100000 in
set_option maxHeartbeats 4000000 in
theorem gX9_next_8 {l : Launch} {E : Ev} {d : Nat} {Q : Option Value → Hp → Prop} {ls : Lv} {st : List Value} {h : Hp} (hB : bX9_next_8 l E d Q ls st h) : Go l E YX9_next (d + 1) 0 0 Q 0 0 8 ls st h :=
  (sd_aload_n (i := 0) rfl dX9_next_8 (sd_getI clsX9 (f := 9) (by decide) (fun _ _ _ => rfl) mw_1187 dX9_next_9 (sd_aload_n (i := 0) rfl dX9_next_12 (sd_getI clsX9 (f := 8) (by decide) (fun _ _ _ => rfl) mw_1186 dX9_next_13 (sd_icmp_ge (tgt := 46) (by decide) dX9_next_16 (Sd.go) (sd_aload_n (i := 0) rfl dX9_next_19 (sd_getR clsX9 (f := 7) (by decide) (fun _ _ _ => rfl) mw_1185 dX9_next_20 (sd_aload_n (i := 0) rfl dX9_next_23 (sd_getI clsX9 (f := 9) (by decide) (fun _ _ _ => rfl) mw_1187 dX9_next_24 (sd_iaload dX9_next_27 (sd_bipush (v := 32) (by decide) dX9_next_28 (sd_icmp_ne (tgt := 46) (by decide) dX9_next_30 (Sd.go) (sd_aload_n (i := 0) rfl dX9_next_33 (sd_dup dX9_next_34 (sd_getI clsX9 (f := 9) (by decide) (fun _ _ _ => rfl) mw_1187 dX9_next_35 (sd_iconst (v := 1) (by decide) dX9_next_38 (sd_iadd dX9_next_39 (sd_putI clsX9 (f := 9) (by decide) (fun _ _ _ => rfl) rfl (Or.inl rfl) mw_1187 dX9_next_40 (sd_goto (tgt := 8) (by decide) dX9_next_43 (Sd.go))))))))))))))))))) : Sd l E YX9_next (d + 1) 0 0 Q 0 0 8 (bX9_next_8 l E d Q)) ls st h hB
def bX9_next_46 (l : Launch) (E : Ev) (d : Nat) (Q : Option Value → Hp → Prop) : Kt := k_aload 0 (k_aload 0 (k_getI 9 55 9 (k_putI 9 55 10 (k_aload 0 (k_push (.long 0) (k_putJ 9 55 12 (k_aload 0 (k_aload 0 (k_getI 9 55 9 (k_aload 0 (k_getI 9 55 8 (k_icmp_ne (k_aload 0 (k_getR 9 55 7 (k_aload 0 (k_getI 9 55 9 (k_iaload (k_callS l E YX9_isSmall d 0 0 1 (k_if_eq (k_aload 0 (k_getR 9 55 7 (k_aload 0 (k_getI 9 55 9 (k_iaload (k_callS l E YX9_isDigit d 0 0 1 (k_if_eq (k_push (.int 3) (Go l E YX9_next (d + 1) 0 0 Q 0 0 114)) (k_push (.int 2) (Go l E YX9_next (d + 1) 0 0 Q 0 0 114))))))))) (k_push (.int 1) (Go l E YX9_next (d + 1) 0 0 Q 0 0 114))))))))) (k_push (.int 0) (Go l E YX9_next (d + 1) 0 0 Q 0 0 114))))))))))))))
set_option maxRecDepth 100000 in
set_option maxHeartbeats 4000000 in
theorem gX9_next_46 {l : Launch} {E : Ev} {d : Nat} {Q : Option Value → Hp → Prop} {ls : Lv} {st : List Value} {h : Hp} (hB : bX9_next_46 l E d Q ls st h) : Go l E YX9_next (d + 1) 0 0 Q 0 0 46 ls st h :=
  (sd_aload_n (i := 0) rfl dX9_next_46 (sd_aload_n (i := 0) rfl dX9_next_47 (sd_getI clsX9 (f := 9) (by decide) (fun _ _ _ => rfl) mw_1187 dX9_next_48 (sd_putI clsX9 (f := 10) (by decide) (fun _ _ _ => rfl) rfl (Or.inl rfl) mw_1188 dX9_next_51 (sd_aload_n (i := 0) rfl dX9_next_54 (sd_lconst (v := 0) (by decide) dX9_next_55 (sd_putJ clsX9 (f := 12) (by decide) (fun _ _ _ => rfl) rfl (Or.inl rfl) mw_1190 dX9_next_56 (sd_aload_n (i := 0) rfl dX9_next_59 (sd_aload_n (i := 0) rfl dX9_next_60 (sd_getI clsX9 (f := 9) (by decide) (fun _ _ _ => rfl) mw_1187 dX9_next_61 (sd_aload_n (i := 0) rfl dX9_next_64 (sd_getI clsX9 (f := 8) (by decide) (fun _ _ _ => rfl) mw_1186 dX9_next_65 (sd_icmp_ne (tgt := 75) (by decide) dX9_next_68 (sd_aload_n (i := 0) rfl dX9_next_75 (sd_getR clsX9 (f := 7) (by decide) (fun _ _ _ => rfl) mw_1185 dX9_next_76 (sd_aload_n (i := 0) rfl dX9_next_79 (sd_getI clsX9 (f := 9) (by decide) (fun _ _ _ => rfl) mw_1187 dX9_next_80 (sd_iaload dX9_next_83 (sd_callS (Y' := YX9_isSmall) (mc' := 0) (ms' := 0) (n := 1) mw_1458 mw_1459 mw_108 mw_1460 (okmX9_isSmall) (by decide) (Nat.le_refl _) (by decide) (by decide) dX9_next_84 (sd_if_eq (tgt := 94) (by decide) dX9_next_87 (sd_aload_n (i := 0) rfl dX9_next_94 (sd_getR clsX9 (f := 7) (by decide) (fun _ _ _ => rfl) mw_1185 dX9_next_95 (sd_aload_n (i := 0) rfl dX9_next_98 (sd_getI clsX9 (f := 9) (by decide) (fun _ _ _ => rfl) mw_1187 dX9_next_99 (sd_iaload dX9_next_102 (sd_callS (Y' := YX9_isDigit) (mc' := 0) (ms' := 0) (n := 1) mw_1461 mw_1462 mw_108 mw_1463 (okmX9_isDigit) (by decide) (Nat.le_refl _) (by decide) (by decide) dX9_next_103 (sd_if_eq (tgt := 113) (by decide) dX9_next_106 (sd_iconst (v := 3) (by decide) dX9_next_113 (Sd.go)) (sd_iconst (v := 2) (by decide) dX9_next_109 (sd_goto (tgt := 114) (by decide) dX9_next_110 (Sd.go)))))))))) (sd_iconst (v := 1) (by decide) dX9_next_90 (sd_goto (tgt := 114) (by decide) dX9_next_91 (Sd.go)))))))))) (sd_iconst (v := 0) (by decide) dX9_next_71 (sd_goto (tgt := 114) (by decide) dX9_next_72 (Sd.go))))))))))))))) : Sd l E YX9_next (d + 1) 0 0 Q 0 0 46 (bX9_next_46 l E d Q)) ls st h hB
def bX9_next_114 (l : Launch) (E : Ev) (d : Nat) (Q : Option Value → Hp → Prop) : Kt := k_putI 9 55 11 (k_aload 0 (k_getI 9 55 11 (k_push (.int 3) (k_icmp_ne (Go l E YX9_next (d + 1) 0 0 Q 0 0 149) (k_aload 0 (k_aload 0 (k_getR 9 55 7 (k_aload 0 (k_getI 9 55 9 (k_iaload (k_i2l (k_putJ 9 55 12 (k_aload 0 (k_dup (k_getI 9 55 10 (k_push (.int 1) (k_iadd (k_putI 9 55 10 (Go l E YX9_next (d + 1) 0 0 Q 0 0 149)))))))))))))))))))
set_option maxRecDepth 100000 in
set_option maxHeartbeats 4000000 in
theorem gX9_next_114 {l : Launch} {E : Ev} {d : Nat} {Q : Option Value → Hp → Prop} {ls : Lv} {st : List Value} {h : Hp} (hB : bX9_next_114 l E d Q ls st h) : Go l E YX9_next (d + 1) 0 0 Q 0 0 114 ls st h :=
  (sd_putI clsX9 (f := 11) (by decide) (fun _ _ _ => rfl) rfl (Or.inl rfl) mw_1189 dX9_next_114 (sd_aload_n (i := 0) rfl dX9_next_117 (sd_getI clsX9 (f := 11) (by decide) (fun _ _ _ => rfl) mw_1189 dX9_next_118 (sd_iconst (v := 3) (by decide) dX9_next_121 (sd_icmp_ne (tgt := 149) (by decide) dX9_next_122 (Sd.go) (sd_aload_n (i := 0) rfl dX9_next_125 (sd_aload_n (i := 0) rfl dX9_next_126 (sd_getR clsX9 (f := 7) (by decide) (fun _ _ _ => rfl) mw_1185 dX9_next_127 (sd_aload_n (i := 0) rfl dX9_next_130 (sd_getI clsX9 (f := 9) (by decide) (fun _ _ _ => rfl) mw_1187 dX9_next_131 (sd_iaload dX9_next_134 (sd_i2l dX9_next_135 (sd_putJ clsX9 (f := 12) (by decide) (fun _ _ _ => rfl) rfl (Or.inl rfl) mw_1190 dX9_next_136 (sd_aload_n (i := 0) rfl dX9_next_139 (sd_dup dX9_next_140 (sd_getI clsX9 (f := 10) (by decide) (fun _ _ _ => rfl) mw_1188 dX9_next_141 (sd_iconst (v := 1) (by decide) dX9_next_144 (sd_iadd dX9_next_145 (sd_putI clsX9 (f := 10) (by decide) (fun _ _ _ => rfl) rfl (Or.inl rfl) mw_1188 dX9_next_146 (Sd.go))))))))))))))))))) : Sd l E YX9_next (d + 1) 0 0 Q 0 0 114 (bX9_next_114 l E d Q)) ls st h hB
def bX9_next_149 (l : Launch) (E : Ev) (d : Nat) (Q : Option Value → Hp → Prop) : Kt := k_aload 0 (k_getI 9 55 11 (k_push (.int 1) (k_icmp_ne (Go l E YX9_next (d + 1) 0 0 Q 0 0 243) (k_aload 0 (k_getI 9 55 10 (k_aload 0 (k_getI 9 55 8 (k_icmp_ge (Go l E YX9_next (d + 1) 0 0 Q 0 0 243) (k_aload 0 (k_getR 9 55 7 (k_aload 0 (k_getI 9 55 10 (k_iaload (k_callS l E YX9_isSmall d 0 0 1 (k_if_eq (Go l E YX9_next (d + 1) 0 0 Q 0 0 243) (k_aload 0 (k_aload 0 (k_getI 9 55 10 (k_aload 0 (k_getI 9 55 9 (k_isub (k_push (.int 10) (k_icmp_ge (k_push (.long (-1)) (Go l E YX9_next (d + 1) 0 0 Q 0 0 227)) (k_aload 0 (k_getJ 9 55 12 (k_push (.long 32) (k_lmul (k_aload 0 (k_getR 9 55 7 (k_aload 0 (k_getI 9 55 10 (k_iaload (k_i2l (k_ladd (k_push (.long 96) (k_lsub (Go l E YX9_next (d + 1) 0 0 Q 0 0 227)))))))))))))))))))))))))))))))))))))
set_option maxRecDepth 100000 in
set_option maxHeartbeats 4000000 in
theorem gX9_next_149 {l : Launch} {E : Ev} {d : Nat} {Q : Option Value → Hp → Prop} {ls : Lv} {st : List Value} {h : Hp} (hB : bX9_next_149 l E d Q ls st h) : Go l E YX9_next (d + 1) 0 0 Q 0 0 149 ls st h :=
  (sd_aload_n (i := 0) rfl dX9_next_149 (sd_getI clsX9 (f := 11) (by decide) (fun _ _ _ => rfl) mw_1189 dX9_next_150 (sd_iconst (v := 1) (by decide) dX9_next_153 (sd_icmp_ne (tgt := 243) (by decide) dX9_next_154 (Sd.go) (sd_aload_n (i := 0) rfl dX9_next_157 (sd_getI clsX9 (f := 10) (by decide) (fun _ _ _ => rfl) mw_1188 dX9_next_158 (sd_aload_n (i := 0) rfl dX9_next_161 (sd_getI clsX9 (f := 8) (by decide) (fun _ _ _ => rfl) mw_1186 dX9_next_162 (sd_icmp_ge (tgt := 243) (by decide) dX9_next_165 (Sd.go) (sd_aload_n (i := 0) rfl dX9_next_168 (sd_getR clsX9 (f := 7) (by decide) (fun _ _ _ => rfl) mw_1185 dX9_next_169 (sd_aload_n (i := 0) rfl dX9_next_172 (sd_getI clsX9 (f := 10) (by decide) (fun _ _ _ => rfl) mw_1188 dX9_next_173 (sd_iaload dX9_next_176 (sd_callS (Y' := YX9_isSmall) (mc' := 0) (ms' := 0) (n := 1) mw_1458 mw_1459 mw_108 mw_1460 (okmX9_isSmall) (by decide) (Nat.le_refl _) (by decide) (by decide) dX9_next_177 (sd_if_eq (tgt := 243) (by decide) dX9_next_180 (Sd.go) (sd_aload_n (i := 0) rfl dX9_next_183 (sd_aload_n (i := 0) rfl dX9_next_184 (sd_getI clsX9 (f := 10) (by decide) (fun _ _ _ => rfl) mw_1188 dX9_next_185 (sd_aload_n (i := 0) rfl dX9_next_188 (sd_getI clsX9 (f := 9) (by decide) (fun _ _ _ => rfl) mw_1187 dX9_next_189 (sd_isub dX9_next_192 (sd_bipush (v := 10) (by decide) dX9_next_193 (sd_icmp_ge (tgt := 224) (by decide) dX9_next_195 (sd_ldc2 (v := (-1)) mw_1466 dX9_next_224 (Sd.go)) (sd_aload_n (i := 0) rfl dX9_next_198 (sd_getJ clsX9 (f := 12) (by decide) (fun _ _ _ => rfl) mw_1190 dX9_next_199 (sd_ldc2 (v := 32) mw_1464 dX9_next_202 (sd_lmul dX9_next_205 (sd_aload_n (i := 0) rfl dX9_next_206 (sd_getR clsX9 (f := 7) (by decide) (fun _ _ _ => rfl) mw_1185 dX9_next_207 (sd_aload_n (i := 0) rfl dX9_next_210 (sd_getI clsX9 (f := 10) (by decide) (fun _ _ _ => rfl) mw_1188 dX9_next_211 (sd_iaload dX9_next_214 (sd_i2l dX9_next_215 (sd_ladd dX9_next_216 (sd_ldc2 (v := 96) mw_1465 dX9_next_217 (sd_lsub dX9_next_220 (sd_goto (tgt := 227) (by decide) dX9_next_221 (Sd.go)))))))))))))))))))))))))))))))))))))) : Sd l E YX9_next (d + 1) 0 0 Q 0 0 149 (bX9_next_149 l E d Q)) ls st h hB
def bX9_next_227 (l : Launch) (E : Ev) (d : Nat) (Q : Option Value → Hp → Prop) : Kt := k_putJ 9 55 12 (k_aload 0 (k_dup (k_getI 9 55 10 (k_push (.int 1) (k_iadd (k_putI 9 55 10 (Go l E YX9_next (d + 1) 0 0 Q 0 0 149)))))))
set_option maxRecDepth 100000 in
set_option maxHeartbeats 4000000 in
theorem gX9_next_227 {l : Launch} {E : Ev} {d : Nat} {Q : Option Value → Hp → Prop} {ls : Lv} {st : List Value} {h : Hp} (hB : bX9_next_227 l E d Q ls st h) : Go l E YX9_next (d + 1) 0 0 Q 0 0 227 ls st h :=
  (sd_putJ clsX9 (f := 12) (by decide) (fun _ _ _ => rfl) rfl (Or.inl rfl) mw_1190 dX9_next_227 (sd_aload_n (i := 0) rfl dX9_next_230 (sd_dup dX9_next_231 (sd_getI clsX9 (f := 10) (by decide) (fun _ _ _ => rfl) mw_1188 dX9_next_232 (sd_iconst (v := 1) (by decide) dX9_next_235 (sd_iadd dX9_next_236 (sd_putI clsX9 (f := 10) (by decide) (fun _ _ _ => rfl) rfl (Or.inl rfl) mw_1188 dX9_next_237 (sd_goto (tgt := 149) (by decide) dX9_next_240 (Sd.go)))))))) : Sd l E YX9_next (d + 1) 0 0 Q 0 0 227 (bX9_next_227 l E d Q)) ls st h hB
def bX9_next_243 (l : Launch) (E : Ev) (d : Nat) (Q : Option Value → Hp → Prop) : Kt := k_aload 0 (k_getI 9 55 11 (k_push (.int 2) (k_icmp_ne (k_vret Q) (k_aload 0 (k_getI 9 55 10 (k_aload 0 (k_getI 9 55 8 (k_icmp_ge (k_vret Q) (k_aload 0 (k_getR 9 55 7 (k_aload 0 (k_getI 9 55 10 (k_iaload (k_callS l E YX9_isDigit d 0 0 1 (k_if_eq (k_vret Q) (k_aload 0 (k_aload 0 (k_getJ 9 55 12 (k_push (.long 1000000) (k_lcmp (k_if_le (k_aload 0 (k_getJ 9 55 12 (k_push (.long 10) (k_lmul (k_aload 0 (k_getR 9 55 7 (k_aload 0 (k_getI 9 55 10 (k_iaload (k_i2l (k_ladd (k_push (.long 48) (k_lsub (Go l E YX9_next (d + 1) 0 0 Q 0 0 319)))))))))))))) (k_aload 0 (k_getJ 9 55 12 (Go l E YX9_next (d + 1) 0 0 Q 0 0 319))))))))))))))))))))))))
set_option maxRecDepth 100000 in
set_option maxHeartbeats 4000000 in
theorem gX9_next_243 {l : Launch} {E : Ev} {d : Nat} {Q : Option Value → Hp → Prop} {ls : Lv} {st : List Value} {h : Hp} (hB : bX9_next_243 l E d Q ls st h) : Go l E YX9_next (d + 1) 0 0 Q 0 0 243 ls st h :=
  (sd_aload_n (i := 0) rfl dX9_next_243 (sd_getI clsX9 (f := 11) (by decide) (fun _ _ _ => rfl) mw_1189 dX9_next_244 (sd_iconst (v := 2) (by decide) dX9_next_247 (sd_icmp_ne (tgt := 335) (by decide) dX9_next_248 (sd_vret rfl (by decide) (by decide) dX9_next_335) (sd_aload_n (i := 0) rfl dX9_next_251 (sd_getI clsX9 (f := 10) (by decide) (fun _ _ _ => rfl) mw_1188 dX9_next_252 (sd_aload_n (i := 0) rfl dX9_next_255 (sd_getI clsX9 (f := 8) (by decide) (fun _ _ _ => rfl) mw_1186 dX9_next_256 (sd_icmp_ge (tgt := 335) (by decide) dX9_next_259 (sd_vret rfl (by decide) (by decide) dX9_next_335) (sd_aload_n (i := 0) rfl dX9_next_262 (sd_getR clsX9 (f := 7) (by decide) (fun _ _ _ => rfl) mw_1185 dX9_next_263 (sd_aload_n (i := 0) rfl dX9_next_266 (sd_getI clsX9 (f := 10) (by decide) (fun _ _ _ => rfl) mw_1188 dX9_next_267 (sd_iaload dX9_next_270 (sd_callS (Y' := YX9_isDigit) (mc' := 0) (ms' := 0) (n := 1) mw_1461 mw_1462 mw_108 mw_1463 (okmX9_isDigit) (by decide) (Nat.le_refl _) (by decide) (by decide) dX9_next_271 (sd_if_eq (tgt := 335) (by decide) dX9_next_274 (sd_vret rfl (by decide) (by decide) dX9_next_335) (sd_aload_n (i := 0) rfl dX9_next_277 (sd_aload_n (i := 0) rfl dX9_next_278 (sd_getJ clsX9 (f := 12) (by decide) (fun _ _ _ => rfl) mw_1190 dX9_next_279 (sd_ldc2 (v := 1000000) mw_1467 dX9_next_282 (sd_lcmp dX9_next_285 (sd_if_le (tgt := 296) (by decide) dX9_next_286 (sd_aload_n (i := 0) rfl dX9_next_296 (sd_getJ clsX9 (f := 12) (by decide) (fun _ _ _ => rfl) mw_1190 dX9_next_297 (sd_ldc2 (v := 10) mw_1468 dX9_next_300 (sd_lmul dX9_next_303 (sd_aload_n (i := 0) rfl dX9_next_304 (sd_getR clsX9 (f := 7) (by decide) (fun _ _ _ => rfl) mw_1185 dX9_next_305 (sd_aload_n (i := 0) rfl dX9_next_308 (sd_getI clsX9 (f := 10) (by decide) (fun _ _ _ => rfl) mw_1188 dX9_next_309 (sd_iaload dX9_next_312 (sd_i2l dX9_next_313 (sd_ladd dX9_next_314 (sd_ldc2 (v := 48) mw_1469 dX9_next_315 (sd_lsub dX9_next_318 (Sd.go)))))))))))))) (sd_aload_n (i := 0) rfl dX9_next_289 (sd_getJ clsX9 (f := 12) (by decide) (fun _ _ _ => rfl) mw_1190 dX9_next_290 (sd_goto (tgt := 319) (by decide) dX9_next_293 (Sd.go))))))))))))))))))))))))) : Sd l E YX9_next (d + 1) 0 0 Q 0 0 243 (bX9_next_243 l E d Q)) ls st h hB
def bX9_next_319 (l : Launch) (E : Ev) (d : Nat) (Q : Option Value → Hp → Prop) : Kt := k_putJ 9 55 12 (k_aload 0 (k_dup (k_getI 9 55 10 (k_push (.int 1) (k_iadd (k_putI 9 55 10 (Go l E YX9_next (d + 1) 0 0 Q 0 0 243)))))))
set_option maxRecDepth 100000 in
set_option maxHeartbeats 4000000 in
theorem gX9_next_319 {l : Launch} {E : Ev} {d : Nat} {Q : Option Value → Hp → Prop} {ls : Lv} {st : List Value} {h : Hp} (hB : bX9_next_319 l E d Q ls st h) : Go l E YX9_next (d + 1) 0 0 Q 0 0 319 ls st h :=
  (sd_putJ clsX9 (f := 12) (by decide) (fun _ _ _ => rfl) rfl (Or.inl rfl) mw_1190 dX9_next_319 (sd_aload_n (i := 0) rfl dX9_next_322 (sd_dup dX9_next_323 (sd_getI clsX9 (f := 10) (by decide) (fun _ _ _ => rfl) mw_1188 dX9_next_324 (sd_iconst (v := 1) (by decide) dX9_next_327 (sd_iadd dX9_next_328 (sd_putI clsX9 (f := 10) (by decide) (fun _ _ _ => rfl) rfl (Or.inl rfl) mw_1188 dX9_next_329 (sd_goto (tgt := 243) (by decide) dX9_next_332 (Sd.go)))))))) : Sd l E YX9_next (d + 1) 0 0 Q 0 0 319 (bX9_next_319 l E d Q)) ls st h hB
theorem eX9_next {l : Launch} {E : Ev} {d : Nat} {Q : Option Value → Hp → Prop} {h : Hp} {a0 : Nat} (hk : Go l E YX9_next d 0 0 Q 0 0 0 [some (.ref a0)] [] h) : GoM l E YX9_next d 0 0 [.ref a0] h Q := GoM.of (by decide +kernel) rfl (by simp [entA, YX9_next]) hk
theorem dX9_isWord_0 : decode cX9_isWord 0 = .ok (.aload_n 0, 1) := by decide +kernel
theorem dX9_isWord_1 : decode cX9_isWord 1 = .ok (.getfield 204, 3) := by decide +kernel
theorem dX9_isWord_4 : decode cX9_isWord 4 = .ok (.iconst 1, 1) := by decide +kernel
theorem dX9_isWord_5 : decode cX9_isWord 5 = .ok (.if_icmp .ne 16, 3) := by decide +kernel
theorem dX9_isWord_8 : decode cX9_isWord 8 = .ok (.aload_n 0, 1) := by decide +kernel
theorem dX9_isWord_9 : decode cX9_isWord 9 = .ok (.getfield 194, 3) := by decide +kernel
theorem dX9_isWord_12 : decode cX9_isWord 12 = .ok (.lload_n 1, 1) := by decide +kernel
theorem dX9_isWord_13 : decode cX9_isWord 13 = .ok (.lcmp, 1) := by decide +kernel
theorem dX9_isWord_14 : decode cX9_isWord 14 = .ok (.ifCond .ne 7, 3) := by decide +kernel
theorem dX9_isWord_17 : decode cX9_isWord 17 = .ok (.iconst 1, 1) := by decide +kernel
theorem dX9_isWord_18 : decode cX9_isWord 18 = .ok (.goto 4, 3) := by decide +kernel
theorem dX9_isWord_21 : decode cX9_isWord 21 = .ok (.iconst 0, 1) := by decide +kernel
theorem dX9_isWord_22 : decode cX9_isWord 22 = .ok (.ireturn, 1) := by decide +kernel
def bX9_isWord_0 (l : Launch) (E : Ev) (d : Nat) (Q : Option Value → Hp → Prop) : Kt := k_aload 0 (k_getI 9 55 11 (k_push (.int 1) (k_icmp_ne (k_push (.int 0) (k_iret .boolean Q)) (k_aload 0 (k_getJ 9 55 12 (k_lload 1 (k_lcmp (k_if_ne (k_push (.int 0) (k_iret .boolean Q)) (k_push (.int 1) (k_iret .boolean Q))))))))))
set_option maxRecDepth 100000 in
set_option maxHeartbeats 4000000 in
theorem gX9_isWord_0 {l : Launch} {E : Ev} {d : Nat} {Q : Option Value → Hp → Prop} {ls : Lv} {st : List Value} {h : Hp} (hB : bX9_isWord_0 l E d Q ls st h) : Go l E YX9_isWord (d + 1) 0 0 Q 0 0 0 ls st h :=
  (sd_aload_n (i := 0) rfl dX9_isWord_0 (sd_getI clsX9 (f := 11) (by decide) (fun _ _ _ => rfl) mw_1189 dX9_isWord_1 (sd_iconst (v := 1) (by decide) dX9_isWord_4 (sd_icmp_ne (tgt := 21) (by decide) dX9_isWord_5 (sd_iconst (v := 0) (by decide) dX9_isWord_21 (sd_iret (ty := .boolean) rfl (by decide) (by decide) dX9_isWord_22)) (sd_aload_n (i := 0) rfl dX9_isWord_8 (sd_getJ clsX9 (f := 12) (by decide) (fun _ _ _ => rfl) mw_1190 dX9_isWord_9 (sd_lload_n (i := 1) rfl dX9_isWord_12 (sd_lcmp dX9_isWord_13 (sd_if_ne (tgt := 21) (by decide) dX9_isWord_14 (sd_iconst (v := 0) (by decide) dX9_isWord_21 (sd_iret (ty := .boolean) rfl (by decide) (by decide) dX9_isWord_22)) (sd_iconst (v := 1) (by decide) dX9_isWord_17 (sd_goto (tgt := 22) (by decide) dX9_isWord_18 (sd_iret (ty := .boolean) rfl (by decide) (by decide) dX9_isWord_22))))))))))) : Sd l E YX9_isWord (d + 1) 0 0 Q 0 0 0 (bX9_isWord_0 l E d Q)) ls st h hB
theorem eX9_isWord {l : Launch} {E : Ev} {d : Nat} {Q : Option Value → Hp → Prop} {h : Hp} {a0 : Nat} {x1 : Int64} (hk : Go l E YX9_isWord d 0 0 Q 0 0 0 [some (.ref a0), some (.long x1), none] [] h) : GoM l E YX9_isWord d 0 0 [.ref a0, .long x1] h Q := GoM.of (by decide +kernel) rfl (by simp [entA, YX9_isWord]) hk
theorem dX9_isSign_0 : decode cX9_isSign 0 = .ok (.aload_n 0, 1) := by decide +kernel
theorem dX9_isSign_1 : decode cX9_isSign 1 = .ok (.getfield 204, 3) := by decide +kernel
theorem dX9_isSign_4 : decode cX9_isSign 4 = .ok (.iconst 3, 1) := by decide +kernel
theorem dX9_isSign_5 : decode cX9_isSign 5 = .ok (.if_icmp .ne 17, 3) := by decide +kernel
theorem dX9_isSign_8 : decode cX9_isSign 8 = .ok (.aload_n 0, 1) := by decide +kernel
theorem dX9_isSign_9 : decode cX9_isSign 9 = .ok (.getfield 194, 3) := by decide +kernel
theorem dX9_isSign_12 : decode cX9_isSign 12 = .ok (.iload_n 1, 1) := by decide +kernel
theorem dX9_isSign_13 : decode cX9_isSign 13 = .ok (.i2l, 1) := by decide +kernel
theorem dX9_isSign_14 : decode cX9_isSign 14 = .ok (.lcmp, 1) := by decide +kernel
theorem dX9_isSign_15 : decode cX9_isSign 15 = .ok (.ifCond .ne 7, 3) := by decide +kernel
theorem dX9_isSign_18 : decode cX9_isSign 18 = .ok (.iconst 1, 1) := by decide +kernel
theorem dX9_isSign_19 : decode cX9_isSign 19 = .ok (.goto 4, 3) := by decide +kernel
theorem dX9_isSign_22 : decode cX9_isSign 22 = .ok (.iconst 0, 1) := by decide +kernel
theorem dX9_isSign_23 : decode cX9_isSign 23 = .ok (.ireturn, 1) := by decide +kernel
def bX9_isSign_0 (l : Launch) (E : Ev) (d : Nat) (Q : Option Value → Hp → Prop) : Kt := k_aload 0 (k_getI 9 55 11 (k_push (.int 3) (k_icmp_ne (k_push (.int 0) (k_iret .boolean Q)) (k_aload 0 (k_getJ 9 55 12 (k_iload 1 (k_i2l (k_lcmp (k_if_ne (k_push (.int 0) (k_iret .boolean Q)) (k_push (.int 1) (k_iret .boolean Q)))))))))))
set_option maxRecDepth 100000 in
set_option maxHeartbeats 4000000 in
theorem gX9_isSign_0 {l : Launch} {E : Ev} {d : Nat} {Q : Option Value → Hp → Prop} {ls : Lv} {st : List Value} {h : Hp} (hB : bX9_isSign_0 l E d Q ls st h) : Go l E YX9_isSign (d + 1) 0 0 Q 0 0 0 ls st h :=
  (sd_aload_n (i := 0) rfl dX9_isSign_0 (sd_getI clsX9 (f := 11) (by decide) (fun _ _ _ => rfl) mw_1189 dX9_isSign_1 (sd_iconst (v := 3) (by decide) dX9_isSign_4 (sd_icmp_ne (tgt := 22) (by decide) dX9_isSign_5 (sd_iconst (v := 0) (by decide) dX9_isSign_22 (sd_iret (ty := .boolean) rfl (by decide) (by decide) dX9_isSign_23)) (sd_aload_n (i := 0) rfl dX9_isSign_8 (sd_getJ clsX9 (f := 12) (by decide) (fun _ _ _ => rfl) mw_1190 dX9_isSign_9 (sd_iload_n (i := 1) rfl dX9_isSign_12 (sd_i2l dX9_isSign_13 (sd_lcmp dX9_isSign_14 (sd_if_ne (tgt := 22) (by decide) dX9_isSign_15 (sd_iconst (v := 0) (by decide) dX9_isSign_22 (sd_iret (ty := .boolean) rfl (by decide) (by decide) dX9_isSign_23)) (sd_iconst (v := 1) (by decide) dX9_isSign_18 (sd_goto (tgt := 23) (by decide) dX9_isSign_19 (sd_iret (ty := .boolean) rfl (by decide) (by decide) dX9_isSign_23)))))))))))) : Sd l E YX9_isSign (d + 1) 0 0 Q 0 0 0 (bX9_isSign_0 l E d Q)) ls st h hB
theorem eX9_isSign {l : Launch} {E : Ev} {d : Nat} {Q : Option Value → Hp → Prop} {h : Hp} {a0 : Nat} {x1 : Int32} (hk : Go l E YX9_isSign d 0 0 Q 0 0 0 [some (.ref a0), some (.int x1)] [] h) : GoM l E YX9_isSign d 0 0 [.ref a0, .int x1] h Q := GoM.of (by decide +kernel) rfl (by simp [entA, YX9_isSign]) hk
theorem dX9_must_0 : decode cX9_must 0 = .ok (.aload_n 0, 1) := by decide +kernel
theorem dX9_must_1 : decode cX9_must 1 = .ok (.getfield 184, 3) := by decide +kernel
theorem dX9_must_4 : decode cX9_must 4 = .ok (.ifCond .ne 20, 3) := by decide +kernel
theorem dX9_must_7 : decode cX9_must 7 = .ok (.iload_n 1, 1) := by decide +kernel
theorem dX9_must_8 : decode cX9_must 8 = .ok (.ifCond .ne 16, 3) := by decide +kernel
theorem dX9_must_11 : decode cX9_must 11 = .ok (.aload_n 0, 1) := by decide +kernel
theorem dX9_must_12 : decode cX9_must 12 = .ok (.iconst 1, 1) := by decide +kernel
theorem dX9_must_13 : decode cX9_must 13 = .ok (.putfield 184, 3) := by decide +kernel
theorem dX9_must_16 : decode cX9_must 16 = .ok (.aload_n 0, 1) := by decide +kernel
theorem dX9_must_17 : decode cX9_must 17 = .ok (.aload_n 0, 1) := by decide +kernel
theorem dX9_must_18 : decode cX9_must 18 = .ok (.getfield 191, 3) := by decide +kernel
theorem dX9_must_21 : decode cX9_must 21 = .ok (.putfield 26, 3) := by decide +kernel
theorem dX9_must_24 : decode cX9_must 24 = .ok (.aload_n 0, 1) := by decide +kernel
theorem dX9_must_25 : decode cX9_must 25 = .ok (.getfield 184, 3) := by decide +kernel
theorem dX9_must_28 : decode cX9_must 28 = .ok (.ifCond .ne 7, 3) := by decide +kernel
theorem dX9_must_31 : decode cX9_must 31 = .ok (.aload_n 0, 1) := by decide +kernel
theorem dX9_must_32 : decode cX9_must 32 = .ok (.invokevirtual 188, 3) := by decide +kernel
theorem dX9_must_35 : decode cX9_must 35 = .ok (.return_, 1) := by decide +kernel
def bX9_must_0 (l : Launch) (E : Ev) (d : Nat) (Q : Option Value → Hp → Prop) : Kt := k_aload 0 (k_getI 9 55 14 (k_if_ne (Go l E YX9_must (d + 1) 0 0 Q 0 0 24) (k_iload 1 (k_if_ne (Go l E YX9_must (d + 1) 0 0 Q 0 0 24) (k_aload 0 (k_push (.int 1) (k_putZ 9 55 14 (k_aload 0 (k_aload 0 (k_getI 9 55 9 (k_putI 9 55 13 (Go l E YX9_must (d + 1) 0 0 Q 0 0 24))))))))))))
set_option maxRecDepth 100000 in
set_option maxHeartbeats 4000000 in
theorem gX9_must_0 {l : Launch} {E : Ev} {d : Nat} {Q : Option Value → Hp → Prop} {ls : Lv} {st : List Value} {h : Hp} (hB : bX9_must_0 l E d Q ls st h) : Go l E YX9_must (d + 1) 0 0 Q 0 0 0 ls st h :=
  (sd_aload_n (i := 0) rfl dX9_must_0 (sd_getI clsX9 (f := 14) (by decide) (fun _ _ _ => rfl) mw_1192 dX9_must_1 (sd_if_ne (tgt := 24) (by decide) dX9_must_4 (Sd.go) (sd_iload_n (i := 1) rfl dX9_must_7 (sd_if_ne (tgt := 24) (by decide) dX9_must_8 (Sd.go) (sd_aload_n (i := 0) rfl dX9_must_11 (sd_iconst (v := 1) (by decide) dX9_must_12 (sd_putZ clsX9 (f := 14) (by decide) (fun _ _ _ => rfl) rfl (Or.inl rfl) mw_1192 dX9_must_13 (sd_aload_n (i := 0) rfl dX9_must_16 (sd_aload_n (i := 0) rfl dX9_must_17 (sd_getI clsX9 (f := 9) (by decide) (fun _ _ _ => rfl) mw_1187 dX9_must_18 (sd_putI clsX9 (f := 13) (by decide) (fun _ _ _ => rfl) rfl (Or.inl rfl) mw_1191 dX9_must_21 (Sd.go)))))))))))) : Sd l E YX9_must (d + 1) 0 0 Q 0 0 0 (bX9_must_0 l E d Q)) ls st h hB
def bX9_must_24 (l : Launch) (E : Ev) (d : Nat) (Q : Option Value → Hp → Prop) : Kt := k_aload 0 (k_getI 9 55 14 (k_if_ne (k_vret Q) (k_aload 0 (k_callV l E 9 55 YX9_next d 0 0 0 (k_vret Q)))))
set_option maxRecDepth 100000 in
set_option maxHeartbeats 4000000 in
theorem gX9_must_24 {l : Launch} {E : Ev} {d : Nat} {Q : Option Value → Hp → Prop} {ls : Lv} {st : List Value} {h : Hp} (hB : bX9_must_24 l E d Q ls st h) : Go l E YX9_must (d + 1) 0 0 Q 0 0 24 ls st h :=
  (sd_aload_n (i := 0) rfl dX9_must_24 (sd_getI clsX9 (f := 14) (by decide) (fun _ _ _ => rfl) mw_1192 dX9_must_25 (sd_if_ne (tgt := 35) (by decide) dX9_must_28 (sd_vret rfl (by decide) (by decide) dX9_must_35) (sd_aload_n (i := 0) rfl dX9_must_31 (sd_callV (Y' := YX9_next) (mc' := 0) (ms' := 0) (n := 0) clsX9.1 mw_1454 mw_1456 mw_53 mw_108 mw_1457 rfl (okmX9_next) (by decide) (Nat.le_refl _) (by decide) (by decide) dX9_must_32 (sd_vret rfl (by decide) (by decide) dX9_must_35))))) : Sd l E YX9_must (d + 1) 0 0 Q 0 0 24 (bX9_must_24 l E d Q)) ls st h hB
theorem eX9_must {l : Launch} {E : Ev} {d : Nat} {Q : Option Value → Hp → Prop} {h : Hp} {a0 : Nat} {x1 : Int32} (hk : Go l E YX9_must d 0 0 Q 0 0 0 [some (.ref a0), some (.int x1)] [] h) : GoM l E YX9_must d 0 0 [.ref a0, .int x1] h Q := GoM.of (by decide +kernel) rfl (by simp [entA, YX9_must]) hk
theorem dX9_fault_0 : decode cX9_fault 0 = .ok (.aload_n 0, 1) := by decide +kernel
theorem dX9_fault_1 : decode cX9_fault 1 = .ok (.iconst 0, 1) := by decide +kernel
theorem dX9_fault_2 : decode cX9_fault 2 = .ok (.putfield 123, 3) := by decide +kernel
theorem dX9_fault_5 : decode cX9_fault 5 = .ok (.aload_n 0, 1) := by decide +kernel
theorem dX9_fault_6 : decode cX9_fault 6 = .ok (.getfield 26, 3) := by decide +kernel
theorem dX9_fault_9 : decode cX9_fault 9 = .ok (.ireturn, 1) := by decide +kernel
def bX9_fault_0 (l : Launch) (E : Ev) (d : Nat) (Q : Option Value → Hp → Prop) : Kt := k_aload 0 (k_push (.int 0) (k_putI 9 55 0 (k_aload 0 (k_getI 9 55 13 (k_iret .int Q)))))
set_option maxRecDepth 100000 in
set_option maxHeartbeats 4000000 in
theorem gX9_fault_0 {l : Launch} {E : Ev} {d : Nat} {Q : Option Value → Hp → Prop} {ls : Lv} {st : List Value} {h : Hp} (hB : bX9_fault_0 l E d Q ls st h) : Go l E YX9_fault (d + 1) 0 0 Q 0 0 0 ls st h :=
  (sd_aload_n (i := 0) rfl dX9_fault_0 (sd_iconst (v := 0) (by decide) dX9_fault_1 (sd_putI clsX9 (f := 0) (by decide) (fun _ _ _ => rfl) rfl (Or.inl rfl) mw_1178 dX9_fault_2 (sd_aload_n (i := 0) rfl dX9_fault_5 (sd_getI clsX9 (f := 13) (by decide) (fun _ _ _ => rfl) mw_1191 dX9_fault_6 (sd_iret (ty := .int) rfl (by decide) (by decide) dX9_fault_9))))) : Sd l E YX9_fault (d + 1) 0 0 Q 0 0 0 (bX9_fault_0 l E d Q)) ls st h hB
theorem eX9_fault {l : Launch} {E : Ev} {d : Nat} {Q : Option Value → Hp → Prop} {h : Hp} {a0 : Nat} (hk : Go l E YX9_fault d 0 0 Q 0 0 0 [some (.ref a0)] [] h) : GoM l E YX9_fault d 0 0 [.ref a0] h Q := GoM.of (by decide +kernel) rfl (by simp [entA, YX9_fault]) hk
theorem dX9_emit_0 : decode cX9_emit 0 = .ok (.aload_n 0, 1) := by decide +kernel
theorem dX9_emit_1 : decode cX9_emit 1 = .ok (.getfield 33, 3) := by decide +kernel
theorem dX9_emit_4 : decode cX9_emit 4 = .ok (.aload_n 0, 1) := by decide +kernel
theorem dX9_emit_5 : decode cX9_emit 5 = .ok (.getfield 223, 3) := by decide +kernel
theorem dX9_emit_8 : decode cX9_emit 8 = .ok (.iload_n 1, 1) := by decide +kernel
theorem dX9_emit_9 : decode cX9_emit 9 = .ok (.iastore, 1) := by decide +kernel
theorem dX9_emit_10 : decode cX9_emit 10 = .ok (.aload_n 0, 1) := by decide +kernel
theorem dX9_emit_11 : decode cX9_emit 11 = .ok (.getfield 36, 3) := by decide +kernel
theorem dX9_emit_14 : decode cX9_emit 14 = .ok (.aload_n 0, 1) := by decide +kernel
theorem dX9_emit_15 : decode cX9_emit 15 = .ok (.getfield 223, 3) := by decide +kernel
theorem dX9_emit_18 : decode cX9_emit 18 = .ok (.iload_n 2, 1) := by decide +kernel
theorem dX9_emit_19 : decode cX9_emit 19 = .ok (.iastore, 1) := by decide +kernel
theorem dX9_emit_20 : decode cX9_emit 20 = .ok (.aload_n 0, 1) := by decide +kernel
theorem dX9_emit_21 : decode cX9_emit 21 = .ok (.dup, 1) := by decide +kernel
theorem dX9_emit_22 : decode cX9_emit 22 = .ok (.getfield 223, 3) := by decide +kernel
theorem dX9_emit_25 : decode cX9_emit 25 = .ok (.iconst 1, 1) := by decide +kernel
theorem dX9_emit_26 : decode cX9_emit 26 = .ok (.iadd, 1) := by decide +kernel
theorem dX9_emit_27 : decode cX9_emit 27 = .ok (.putfield 223, 3) := by decide +kernel
theorem dX9_emit_30 : decode cX9_emit 30 = .ok (.return_, 1) := by decide +kernel
def bX9_emit_0 (l : Launch) (E : Ev) (d : Nat) (Q : Option Value → Hp → Prop) : Kt := k_aload 0 (k_getR 9 55 18 (k_aload 0 (k_getI 9 55 17 (k_iload 1 (k_iastore (k_aload 0 (k_getR 9 55 19 (k_aload 0 (k_getI 9 55 17 (k_iload 2 (k_iastore (k_aload 0 (k_dup (k_getI 9 55 17 (k_push (.int 1) (k_iadd (k_putI 9 55 17 (k_vret Q))))))))))))))))))
set_option maxRecDepth 100000 in
set_option maxHeartbeats 4000000 in
theorem gX9_emit_0 {l : Launch} {E : Ev} {d : Nat} {Q : Option Value → Hp → Prop} {ls : Lv} {st : List Value} {h : Hp} (hB : bX9_emit_0 l E d Q ls st h) : Go l E YX9_emit (d + 1) 0 0 Q 0 0 0 ls st h :=
  (sd_aload_n (i := 0) rfl dX9_emit_0 (sd_getR clsX9 (f := 18) (by decide) (fun _ _ _ => rfl) mw_1196 dX9_emit_1 (sd_aload_n (i := 0) rfl dX9_emit_4 (sd_getI clsX9 (f := 17) (by decide) (fun _ _ _ => rfl) mw_1195 dX9_emit_5 (sd_iload_n (i := 1) rfl dX9_emit_8 (sd_iastore dX9_emit_9 (sd_aload_n (i := 0) rfl dX9_emit_10 (sd_getR clsX9 (f := 19) (by decide) (fun _ _ _ => rfl) mw_1197 dX9_emit_11 (sd_aload_n (i := 0) rfl dX9_emit_14 (sd_getI clsX9 (f := 17) (by decide) (fun _ _ _ => rfl) mw_1195 dX9_emit_15 (sd_iload_n (i := 2) rfl dX9_emit_18 (sd_iastore dX9_emit_19 (sd_aload_n (i := 0) rfl dX9_emit_20 (sd_dup dX9_emit_21 (sd_getI clsX9 (f := 17) (by decide) (fun _ _ _ => rfl) mw_1195 dX9_emit_22 (sd_iconst (v := 1) (by decide) dX9_emit_25 (sd_iadd dX9_emit_26 (sd_putI clsX9 (f := 17) (by decide) (fun _ _ _ => rfl) rfl (Or.inl rfl) mw_1195 dX9_emit_27 (sd_vret rfl (by decide) (by decide) dX9_emit_30)))))))))))))))))) : Sd l E YX9_emit (d + 1) 0 0 Q 0 0 0 (bX9_emit_0 l E d Q)) ls st h hB
theorem eX9_emit {l : Launch} {E : Ev} {d : Nat} {Q : Option Value → Hp → Prop} {h : Hp} {a0 : Nat} {x1 : Int32} {x2 : Int32} (hk : Go l E YX9_emit d 0 0 Q 0 0 0 [some (.ref a0), some (.int x1), some (.int x2)] [] h) : GoM l E YX9_emit d 0 0 [.ref a0, .int x1, .int x2] h Q := GoM.of (by decide +kernel) rfl (by simp [entA, YX9_emit]) hk
theorem dX9_push_0 : decode cX9_push 0 = .ok (.aload_n 0, 1) := by decide +kernel
theorem dX9_push_1 : decode cX9_push 1 = .ok (.getfield 39, 3) := by decide +kernel
theorem dX9_push_4 : decode cX9_push 4 = .ok (.aload_n 0, 1) := by decide +kernel
theorem dX9_push_5 : decode cX9_push 5 = .ok (.getfield 226, 3) := by decide +kernel
theorem dX9_push_8 : decode cX9_push 8 = .ok (.iload_n 1, 1) := by decide +kernel
theorem dX9_push_9 : decode cX9_push 9 = .ok (.iastore, 1) := by decide +kernel
theorem dX9_push_10 : decode cX9_push 10 = .ok (.aload_n 0, 1) := by decide +kernel
theorem dX9_push_11 : decode cX9_push 11 = .ok (.getfield 42, 3) := by decide +kernel
theorem dX9_push_14 : decode cX9_push 14 = .ok (.aload_n 0, 1) := by decide +kernel
theorem dX9_push_15 : decode cX9_push 15 = .ok (.getfield 226, 3) := by decide +kernel
theorem dX9_push_18 : decode cX9_push 18 = .ok (.iload_n 2, 1) := by decide +kernel
theorem dX9_push_19 : decode cX9_push 19 = .ok (.iastore, 1) := by decide +kernel
theorem dX9_push_20 : decode cX9_push 20 = .ok (.aload_n 0, 1) := by decide +kernel
theorem dX9_push_21 : decode cX9_push 21 = .ok (.dup, 1) := by decide +kernel
theorem dX9_push_22 : decode cX9_push 22 = .ok (.getfield 226, 3) := by decide +kernel
theorem dX9_push_25 : decode cX9_push 25 = .ok (.iconst 1, 1) := by decide +kernel
theorem dX9_push_26 : decode cX9_push 26 = .ok (.iadd, 1) := by decide +kernel
theorem dX9_push_27 : decode cX9_push 27 = .ok (.putfield 226, 3) := by decide +kernel
theorem dX9_push_30 : decode cX9_push 30 = .ok (.return_, 1) := by decide +kernel
def bX9_push_0 (l : Launch) (E : Ev) (d : Nat) (Q : Option Value → Hp → Prop) : Kt := k_aload 0 (k_getR 9 55 21 (k_aload 0 (k_getI 9 55 23 (k_iload 1 (k_iastore (k_aload 0 (k_getR 9 55 22 (k_aload 0 (k_getI 9 55 23 (k_iload 2 (k_iastore (k_aload 0 (k_dup (k_getI 9 55 23 (k_push (.int 1) (k_iadd (k_putI 9 55 23 (k_vret Q))))))))))))))))))
set_option maxRecDepth 100000 in
set_option maxHeartbeats 4000000 in
theorem gX9_push_0 {l : Launch} {E : Ev} {d : Nat} {Q : Option Value → Hp → Prop} {ls : Lv} {st : List Value} {h : Hp} (hB : bX9_push_0 l E d Q ls st h) : Go l E YX9_push (d + 1) 0 0 Q 0 0 0 ls st h :=
  (sd_aload_n (i := 0) rfl dX9_push_0 (sd_getR clsX9 (f := 21) (by decide) (fun _ _ _ => rfl) mw_1199 dX9_push_1 (sd_aload_n (i := 0) rfl dX9_push_4 (sd_getI clsX9 (f := 23) (by decide) (fun _ _ _ => rfl) mw_1201 dX9_push_5 (sd_iload_n (i := 1) rfl dX9_push_8 (sd_iastore dX9_push_9 (sd_aload_n (i := 0) rfl dX9_push_10 (sd_getR clsX9 (f := 22) (by decide) (fun _ _ _ => rfl) mw_1200 dX9_push_11 (sd_aload_n (i := 0) rfl dX9_push_14 (sd_getI clsX9 (f := 23) (by decide) (fun _ _ _ => rfl) mw_1201 dX9_push_15 (sd_iload_n (i := 2) rfl dX9_push_18 (sd_iastore dX9_push_19 (sd_aload_n (i := 0) rfl dX9_push_20 (sd_dup dX9_push_21 (sd_getI clsX9 (f := 23) (by decide) (fun _ _ _ => rfl) mw_1201 dX9_push_22 (sd_iconst (v := 1) (by decide) dX9_push_25 (sd_iadd dX9_push_26 (sd_putI clsX9 (f := 23) (by decide) (fun _ _ _ => rfl) rfl (Or.inl rfl) mw_1201 dX9_push_27 (sd_vret rfl (by decide) (by decide) dX9_push_30)))))))))))))))))) : Sd l E YX9_push (d + 1) 0 0 Q 0 0 0 (bX9_push_0 l E d Q)) ls st h hB
theorem eX9_push {l : Launch} {E : Ev} {d : Nat} {Q : Option Value → Hp → Prop} {h : Hp} {a0 : Nat} {x1 : Int32} {x2 : Int32} (hk : Go l E YX9_push d 0 0 Q 0 0 0 [some (.ref a0), some (.int x1), some (.int x2)] [] h) : GoM l E YX9_push d 0 0 [.ref a0, .int x1, .int x2] h Q := GoM.of (by decide +kernel) rfl (by simp [entA, YX9_push]) hk
theorem dX9_binds_0 : decode cX9_binds 0 = .ok (.iload_n 0, 1) := by decide +kernel
theorem dX9_binds_1 : decode cX9_binds 1 = .ok (.bipush 30, 2) := by decide +kernel
theorem dX9_binds_3 : decode cX9_binds 3 = .ok (.if_icmp .lt 7, 3) := by decide +kernel
theorem dX9_binds_6 : decode cX9_binds 6 = .ok (.iconst 0, 1) := by decide +kernel
theorem dX9_binds_7 : decode cX9_binds 7 = .ok (.goto 55, 3) := by decide +kernel
theorem dX9_binds_10 : decode cX9_binds 10 = .ok (.iload_n 0, 1) := by decide +kernel
theorem dX9_binds_11 : decode cX9_binds 11 = .ok (.bipush 29, 2) := by decide +kernel
theorem dX9_binds_13 : decode cX9_binds 13 = .ok (.if_icmp .ne 7, 3) := by decide +kernel
theorem dX9_binds_16 : decode cX9_binds 16 = .ok (.iconst 1, 1) := by decide +kernel
theorem dX9_binds_17 : decode cX9_binds 17 = .ok (.goto 45, 3) := by decide +kernel
theorem dX9_binds_20 : decode cX9_binds 20 = .ok (.iload_n 0, 1) := by decide +kernel
theorem dX9_binds_21 : decode cX9_binds 21 = .ok (.bipush 28, 2) := by decide +kernel
theorem dX9_binds_23 : decode cX9_binds 23 = .ok (.if_icmp .ne 7, 3) := by decide +kernel
theorem dX9_binds_26 : decode cX9_binds 26 = .ok (.iconst 2, 1) := by decide +kernel
theorem dX9_binds_27 : decode cX9_binds 27 = .ok (.goto 35, 3) := by decide +kernel
theorem dX9_binds_30 : decode cX9_binds 30 = .ok (.iload_n 0, 1) := by decide +kernel
theorem dX9_binds_31 : decode cX9_binds 31 = .ok (.bipush 27, 2) := by decide +kernel
theorem dX9_binds_33 : decode cX9_binds 33 = .ok (.if_icmp .ne 7, 3) := by decide +kernel
theorem dX9_binds_36 : decode cX9_binds 36 = .ok (.iconst 3, 1) := by decide +kernel
theorem dX9_binds_37 : decode cX9_binds 37 = .ok (.goto 25, 3) := by decide +kernel
theorem dX9_binds_40 : decode cX9_binds 40 = .ok (.iload_n 0, 1) := by decide +kernel
theorem dX9_binds_41 : decode cX9_binds 41 = .ok (.bipush 24, 2) := by decide +kernel
theorem dX9_binds_43 : decode cX9_binds 43 = .ok (.if_icmp .lt 7, 3) := by decide +kernel
theorem dX9_binds_46 : decode cX9_binds 46 = .ok (.iconst 4, 1) := by decide +kernel
theorem dX9_binds_47 : decode cX9_binds 47 = .ok (.goto 15, 3) := by decide +kernel
theorem dX9_binds_50 : decode cX9_binds 50 = .ok (.iload_n 0, 1) := by decide +kernel
theorem dX9_binds_51 : decode cX9_binds 51 = .ok (.bipush 22, 2) := by decide +kernel
theorem dX9_binds_53 : decode cX9_binds 53 = .ok (.if_icmp .lt 8, 3) := by decide +kernel
theorem dX9_binds_56 : decode cX9_binds 56 = .ok (.bipush 6, 2) := by decide +kernel
theorem dX9_binds_58 : decode cX9_binds 58 = .ok (.goto 4, 3) := by decide +kernel
theorem dX9_binds_61 : decode cX9_binds 61 = .ok (.iconst 5, 1) := by decide +kernel
theorem dX9_binds_62 : decode cX9_binds 62 = .ok (.ireturn, 1) := by decide +kernel
def bX9_binds_0 (l : Launch) (E : Ev) (d : Nat) (Q : Option Value → Hp → Prop) : Kt := k_iload 0 (k_push (.int 30) (k_icmp_lt (k_iload 0 (k_push (.int 29) (k_icmp_ne (k_iload 0 (k_push (.int 28) (k_icmp_ne (k_iload 0 (k_push (.int 27) (k_icmp_ne (k_iload 0 (k_push (.int 24) (k_icmp_lt (k_iload 0 (k_push (.int 22) (k_icmp_lt (k_push (.int 5) (k_iret .int Q)) (k_push (.int 6) (k_iret .int Q))))) (k_push (.int 4) (k_iret .int Q))))) (k_push (.int 3) (k_iret .int Q))))) (k_push (.int 2) (k_iret .int Q))))) (k_push (.int 1) (k_iret .int Q))))) (k_push (.int 0) (k_iret .int Q))))
set_option maxRecDepth 100000 in
set_option maxHeartbeats 4000000 in
theorem gX9_binds_0 {l : Launch} {E : Ev} {d : Nat} {Q : Option Value → Hp → Prop} {ls : Lv} {st : List Value} {h : Hp} (hB : bX9_binds_0 l E d Q ls st h) : Go l E YX9_binds (d + 1) 0 0 Q 0 0 0 ls st h :=
  (sd_iload_n (i := 0) rfl dX9_binds_0 (sd_bipush (v := 30) (by decide) dX9_binds_1 (sd_icmp_lt (tgt := 10) (by decide) dX9_binds_3 (sd_iload_n (i := 0) rfl dX9_binds_10 (sd_bipush (v := 29) (by decide) dX9_binds_11 (sd_icmp_ne (tgt := 20) (by decide) dX9_binds_13 (sd_iload_n (i := 0) rfl dX9_binds_20 (sd_bipush (v := 28) (by decide) dX9_binds_21 (sd_icmp_ne (tgt := 30) (by decide) dX9_binds_23 (sd_iload_n (i := 0) rfl dX9_binds_30 (sd_bipush (v := 27) (by decide) dX9_binds_31 (sd_icmp_ne (tgt := 40) (by decide) dX9_binds_33 (sd_iload_n (i := 0) rfl dX9_binds_40 (sd_bipush (v := 24) (by decide) dX9_binds_41 (sd_icmp_lt (tgt := 50) (by decide) dX9_binds_43 (sd_iload_n (i := 0) rfl dX9_binds_50 (sd_bipush (v := 22) (by decide) dX9_binds_51 (sd_icmp_lt (tgt := 61) (by decide) dX9_binds_53 (sd_iconst (v := 5) (by decide) dX9_binds_61 (sd_iret (ty := .int) rfl (by decide) (by decide) dX9_binds_62)) (sd_bipush (v := 6) (by decide) dX9_binds_56 (sd_goto (tgt := 62) (by decide) dX9_binds_58 (sd_iret (ty := .int) rfl (by decide) (by decide) dX9_binds_62)))))) (sd_iconst (v := 4) (by decide) dX9_binds_46 (sd_goto (tgt := 62) (by decide) dX9_binds_47 (sd_iret (ty := .int) rfl (by decide) (by decide) dX9_binds_62)))))) (sd_iconst (v := 3) (by decide) dX9_binds_36 (sd_goto (tgt := 62) (by decide) dX9_binds_37 (sd_iret (ty := .int) rfl (by decide) (by decide) dX9_binds_62)))))) (sd_iconst (v := 2) (by decide) dX9_binds_26 (sd_goto (tgt := 62) (by decide) dX9_binds_27 (sd_iret (ty := .int) rfl (by decide) (by decide) dX9_binds_62)))))) (sd_iconst (v := 1) (by decide) dX9_binds_16 (sd_goto (tgt := 62) (by decide) dX9_binds_17 (sd_iret (ty := .int) rfl (by decide) (by decide) dX9_binds_62)))))) (sd_iconst (v := 0) (by decide) dX9_binds_6 (sd_goto (tgt := 62) (by decide) dX9_binds_7 (sd_iret (ty := .int) rfl (by decide) (by decide) dX9_binds_62))))) : Sd l E YX9_binds (d + 1) 0 0 Q 0 0 0 (bX9_binds_0 l E d Q)) ls st h hB
theorem eX9_binds {l : Launch} {E : Ev} {d : Nat} {Q : Option Value → Hp → Prop} {h : Hp} {x1 : Int32} (hk : Go l E YX9_binds d 0 0 Q 0 0 0 [some (.int x1)] [] h) : GoM l E YX9_binds d 0 0 [.int x1] h Q := GoM.of (by decide +kernel) rfl (by simp [entA, YX9_binds]) hk
theorem dX9_settle_0 : decode cX9_settle 0 = .ok (.aload_n 0, 1) := by decide +kernel
theorem dX9_settle_1 : decode cX9_settle 1 = .ok (.getfield 226, 3) := by decide +kernel
theorem dX9_settle_4 : decode cX9_settle 4 = .ok (.ifCond .le 97, 3) := by decide +kernel
theorem dX9_settle_7 : decode cX9_settle 7 = .ok (.aload_n 0, 1) := by decide +kernel
theorem dX9_settle_8 : decode cX9_settle 8 = .ok (.getfield 39, 3) := by decide +kernel
theorem dX9_settle_11 : decode cX9_settle 11 = .ok (.aload_n 0, 1) := by decide +kernel
theorem dX9_settle_12 : decode cX9_settle 12 = .ok (.getfield 226, 3) := by decide +kernel
theorem dX9_settle_15 : decode cX9_settle 15 = .ok (.iconst 1, 1) := by decide +kernel
theorem dX9_settle_16 : decode cX9_settle 16 = .ok (.isub, 1) := by decide +kernel
theorem dX9_settle_17 : decode cX9_settle 17 = .ok (.iaload, 1) := by decide +kernel
theorem dX9_settle_18 : decode cX9_settle 18 = .ok (.invokestatic 229, 3) := by decide +kernel
theorem dX9_settle_21 : decode cX9_settle 21 = .ok (.iload_n 1, 1) := by decide +kernel
theorem dX9_settle_22 : decode cX9_settle 22 = .ok (.if_icmp .lt 79, 3) := by decide +kernel
theorem dX9_settle_25 : decode cX9_settle 25 = .ok (.aload_n 0, 1) := by decide +kernel
theorem dX9_settle_26 : decode cX9_settle 26 = .ok (.dup, 1) := by decide +kernel
theorem dX9_settle_27 : decode cX9_settle 27 = .ok (.getfield 226, 3) := by decide +kernel
theorem dX9_settle_30 : decode cX9_settle 30 = .ok (.iconst 1, 1) := by decide +kernel
theorem dX9_settle_31 : decode cX9_settle 31 = .ok (.isub, 1) := by decide +kernel
theorem dX9_settle_32 : decode cX9_settle 32 = .ok (.putfield 226, 3) := by decide +kernel
theorem dX9_settle_35 : decode cX9_settle 35 = .ok (.aload_n 0, 1) := by decide +kernel
theorem dX9_settle_36 : decode cX9_settle 36 = .ok (.getfield 39, 3) := by decide +kernel
theorem dX9_settle_39 : decode cX9_settle 39 = .ok (.aload_n 0, 1) := by decide +kernel
theorem dX9_settle_40 : decode cX9_settle 40 = .ok (.getfield 226, 3) := by decide +kernel
theorem dX9_settle_43 : decode cX9_settle 43 = .ok (.iaload, 1) := by decide +kernel
theorem dX9_settle_44 : decode cX9_settle 44 = .ok (.bipush 28, 2) := by decide +kernel
theorem dX9_settle_46 : decode cX9_settle 46 = .ok (.if_icmp .eq 17, 3) := by decide +kernel
theorem dX9_settle_49 : decode cX9_settle 49 = .ok (.aload_n 0, 1) := by decide +kernel
theorem dX9_settle_50 : decode cX9_settle 50 = .ok (.getfield 39, 3) := by decide +kernel
theorem dX9_settle_53 : decode cX9_settle 53 = .ok (.aload_n 0, 1) := by decide +kernel
theorem dX9_settle_54 : decode cX9_settle 54 = .ok (.getfield 226, 3) := by decide +kernel
theorem dX9_settle_57 : decode cX9_settle 57 = .ok (.iaload, 1) := by decide +kernel
theorem dX9_settle_58 : decode cX9_settle 58 = .ok (.bipush 29, 2) := by decide +kernel
theorem dX9_settle_60 : decode cX9_settle 60 = .ok (.if_icmp .ne 24, 3) := by decide +kernel
theorem dX9_settle_63 : decode cX9_settle 63 = .ok (.aload_n 0, 1) := by decide +kernel
theorem dX9_settle_64 : decode cX9_settle 64 = .ok (.getfield 36, 3) := by decide +kernel
theorem dX9_settle_67 : decode cX9_settle 67 = .ok (.aload_n 0, 1) := by decide +kernel
theorem dX9_settle_68 : decode cX9_settle 68 = .ok (.getfield 42, 3) := by decide +kernel
theorem dX9_settle_71 : decode cX9_settle 71 = .ok (.aload_n 0, 1) := by decide +kernel
theorem dX9_settle_72 : decode cX9_settle 72 = .ok (.getfield 226, 3) := by decide +kernel
theorem dX9_settle_75 : decode cX9_settle 75 = .ok (.iaload, 1) := by decide +kernel
theorem dX9_settle_76 : decode cX9_settle 76 = .ok (.aload_n 0, 1) := by decide +kernel
theorem dX9_settle_77 : decode cX9_settle 77 = .ok (.getfield 223, 3) := by decide +kernel
theorem dX9_settle_80 : decode cX9_settle 80 = .ok (.iastore, 1) := by decide +kernel
theorem dX9_settle_81 : decode cX9_settle 81 = .ok (.goto (-81), 3) := by decide +kernel
theorem dX9_settle_84 : decode cX9_settle 84 = .ok (.aload_n 0, 1) := by decide +kernel
theorem dX9_settle_85 : decode cX9_settle 85 = .ok (.aload_n 0, 1) := by decide +kernel
theorem dX9_settle_86 : decode cX9_settle 86 = .ok (.getfield 39, 3) := by decide +kernel
theorem dX9_settle_89 : decode cX9_settle 89 = .ok (.aload_n 0, 1) := by decide +kernel
theorem dX9_settle_90 : decode cX9_settle 90 = .ok (.getfield 226, 3) := by decide +kernel
theorem dX9_settle_93 : decode cX9_settle 93 = .ok (.iaload, 1) := by decide +kernel
theorem dX9_settle_94 : decode cX9_settle 94 = .ok (.iconst 0, 1) := by decide +kernel
theorem dX9_settle_95 : decode cX9_settle 95 = .ok (.invokevirtual 232, 3) := by decide +kernel
theorem dX9_settle_98 : decode cX9_settle 98 = .ok (.goto (-98), 3) := by decide +kernel
theorem dX9_settle_101 : decode cX9_settle 101 = .ok (.return_, 1) := by decide +kernel
def bX9_settle_0 (l : Launch) (E : Ev) (d : Nat) (Q : Option Value → Hp → Prop) : Kt := k_aload 0 (k_getI 9 55 23 (k_if_le (k_vret Q) (k_aload 0 (k_getR 9 55 21 (k_aload 0 (k_getI 9 55 23 (k_push (.int 1) (k_isub (k_iaload (k_callS l E YX9_binds d 0 0 1 (k_iload 1 (k_icmp_lt (k_vret Q) (k_aload 0 (k_dup (k_getI 9 55 23 (k_push (.int 1) (k_isub (k_putI 9 55 23 (k_aload 0 (k_getR 9 55 21 (k_aload 0 (k_getI 9 55 23 (k_iaload (k_push (.int 28) (k_icmp_eq (Go l E YX9_settle (d + 1) 0 0 Q 0 0 63) (k_aload 0 (k_getR 9 55 21 (k_aload 0 (k_getI 9 55 23 (k_iaload (k_push (.int 29) (k_icmp_ne (k_aload 0 (k_aload 0 (k_getR 9 55 21 (k_aload 0 (k_getI 9 55 23 (k_iaload (k_push (.int 0) (k_callV l E 9 55 YX9_emit d 0 0 2 (Go l E YX9_settle (d + 1) 0 0 Q 0 0 0))))))))) (Go l E YX9_settle (d + 1) 0 0 Q 0 0 63)))))))))))))))))))))))))))))))))
set_option maxRecDepth 100000 in
set_option maxHeartbeats 4000000 in
theorem gX9_settle_0 {l : Launch} {E : Ev} {d : Nat} {Q : Option Value → Hp → Prop} {ls : Lv} {st : List Value} {h : Hp} (hB : bX9_settle_0 l E d Q ls st h) : Go l E YX9_settle (d + 1) 0 0 Q 0 0 0 ls st h :=
  (sd_aload_n (i := 0) rfl dX9_settle_0 (sd_getI clsX9 (f := 23) (by decide) (fun _ _ _ => rfl) mw_1201 dX9_settle_1 (sd_if_le (tgt := 101) (by decide) dX9_settle_4 (sd_vret rfl (by decide) (by decide) dX9_settle_101) (sd_aload_n (i := 0) rfl dX9_settle_7 (sd_getR clsX9 (f := 21) (by decide) (fun _ _ _ => rfl) mw_1199 dX9_settle_8 (sd_aload_n (i := 0) rfl dX9_settle_11 (sd_getI clsX9 (f := 23) (by decide) (fun _ _ _ => rfl) mw_1201 dX9_settle_12 (sd_iconst (v := 1) (by decide) dX9_settle_15 (sd_isub dX9_settle_16 (sd_iaload dX9_settle_17 (sd_callS (Y' := YX9_binds) (mc' := 0) (ms' := 0) (n := 1) mw_1524 mw_1525 mw_108 mw_1526 (okmX9_binds) (by decide) (Nat.le_refl _) (by decide) (by decide) dX9_settle_18 (sd_iload_n (i := 1) rfl dX9_settle_21 (sd_icmp_lt (tgt := 101) (by decide) dX9_settle_22 (sd_vret rfl (by decide) (by decide) dX9_settle_101) (sd_aload_n (i := 0) rfl dX9_settle_25 (sd_dup dX9_settle_26 (sd_getI clsX9 (f := 23) (by decide) (fun _ _ _ => rfl) mw_1201 dX9_settle_27 (sd_iconst (v := 1) (by decide) dX9_settle_30 (sd_isub dX9_settle_31 (sd_putI clsX9 (f := 23) (by decide) (fun _ _ _ => rfl) rfl (Or.inl rfl) mw_1201 dX9_settle_32 (sd_aload_n (i := 0) rfl dX9_settle_35 (sd_getR clsX9 (f := 21) (by decide) (fun _ _ _ => rfl) mw_1199 dX9_settle_36 (sd_aload_n (i := 0) rfl dX9_settle_39 (sd_getI clsX9 (f := 23) (by decide) (fun _ _ _ => rfl) mw_1201 dX9_settle_40 (sd_iaload dX9_settle_43 (sd_bipush (v := 28) (by decide) dX9_settle_44 (sd_icmp_eq (tgt := 63) (by decide) dX9_settle_46 (Sd.go) (sd_aload_n (i := 0) rfl dX9_settle_49 (sd_getR clsX9 (f := 21) (by decide) (fun _ _ _ => rfl) mw_1199 dX9_settle_50 (sd_aload_n (i := 0) rfl dX9_settle_53 (sd_getI clsX9 (f := 23) (by decide) (fun _ _ _ => rfl) mw_1201 dX9_settle_54 (sd_iaload dX9_settle_57 (sd_bipush (v := 29) (by decide) dX9_settle_58 (sd_icmp_ne (tgt := 84) (by decide) dX9_settle_60 (sd_aload_n (i := 0) rfl dX9_settle_84 (sd_aload_n (i := 0) rfl dX9_settle_85 (sd_getR clsX9 (f := 21) (by decide) (fun _ _ _ => rfl) mw_1199 dX9_settle_86 (sd_aload_n (i := 0) rfl dX9_settle_89 (sd_getI clsX9 (f := 23) (by decide) (fun _ _ _ => rfl) mw_1201 dX9_settle_90 (sd_iaload dX9_settle_93 (sd_iconst (v := 0) (by decide) dX9_settle_94 (sd_callV (Y' := YX9_emit) (mc' := 0) (ms' := 0) (n := 2) clsX9.1 mw_1516 mw_1518 mw_65 mw_108 mw_1519 rfl (okmX9_emit) (by decide) (Nat.le_refl _) (by decide) (by decide) dX9_settle_95 (sd_goto (tgt := 0) (by decide) dX9_settle_98 (Sd.go)))))))))) (Sd.go))))))))))))))))))))))))))))))))) : Sd l E YX9_settle (d + 1) 0 0 Q 0 0 0 (bX9_settle_0 l E d Q)) ls st h hB
def bX9_settle_63 (l : Launch) (E : Ev) (d : Nat) (Q : Option Value → Hp → Prop) : Kt := k_aload 0 (k_getR 9 55 19 (k_aload 0 (k_getR 9 55 22 (k_aload 0 (k_getI 9 55 23 (k_iaload (k_aload 0 (k_getI 9 55 17 (k_iastore (Go l E YX9_settle (d + 1) 0 0 Q 0 0 0))))))))))
set_option maxRecDepth 100000 in
set_option maxHeartbeats 4000000 in
theorem gX9_settle_63 {l : Launch} {E : Ev} {d : Nat} {Q : Option Value → Hp → Prop} {ls : Lv} {st : List Value} {h : Hp} (hB : bX9_settle_63 l E d Q ls st h) : Go l E YX9_settle (d + 1) 0 0 Q 0 0 63 ls st h :=
  (sd_aload_n (i := 0) rfl dX9_settle_63 (sd_getR clsX9 (f := 19) (by decide) (fun _ _ _ => rfl) mw_1197 dX9_settle_64 (sd_aload_n (i := 0) rfl dX9_settle_67 (sd_getR clsX9 (f := 22) (by decide) (fun _ _ _ => rfl) mw_1200 dX9_settle_68 (sd_aload_n (i := 0) rfl dX9_settle_71 (sd_getI clsX9 (f := 23) (by decide) (fun _ _ _ => rfl) mw_1201 dX9_settle_72 (sd_iaload dX9_settle_75 (sd_aload_n (i := 0) rfl dX9_settle_76 (sd_getI clsX9 (f := 17) (by decide) (fun _ _ _ => rfl) mw_1195 dX9_settle_77 (sd_iastore dX9_settle_80 (sd_goto (tgt := 0) (by decide) dX9_settle_81 (Sd.go))))))))))) : Sd l E YX9_settle (d + 1) 0 0 Q 0 0 63 (bX9_settle_63 l E d Q)) ls st h hB
theorem eX9_settle {l : Launch} {E : Ev} {d : Nat} {Q : Option Value → Hp → Prop} {h : Hp} {a0 : Nat} {x1 : Int32} (hk : Go l E YX9_settle d 0 0 Q 0 0 0 [some (.ref a0), some (.int x1)] [] h) : GoM l E YX9_settle d 0 0 [.ref a0, .int x1] h Q := GoM.of (by decide +kernel) rfl (by simp [entA, YX9_settle]) hk
theorem dX9_inner_0 : decode cX9_inner 0 = .ok (.iconst (-1), 1) := by decide +kernel
theorem dX9_inner_1 : decode cX9_inner 1 = .ok (.istore_n 1, 1) := by decide +kernel
theorem dX9_inner_2 : decode cX9_inner 2 = .ok (.iconst 0, 1) := by decide +kernel
theorem dX9_inner_3 : decode cX9_inner 3 = .ok (.istore_n 2, 1) := by decide +kernel
theorem dX9_inner_4 : decode cX9_inner 4 = .ok (.iload_n 2, 1) := by decide +kernel
theorem dX9_inner_5 : decode cX9_inner 5 = .ok (.aload_n 0, 1) := by decide +kernel
theorem dX9_inner_6 : decode cX9_inner 6 = .ok (.getfield 226, 3) := by decide +kernel
theorem dX9_inner_9 : decode cX9_inner 9 = .ok (.if_icmp .ge 31, 3) := by decide +kernel
theorem dX9_inner_12 : decode cX9_inner 12 = .ok (.aload_n 0, 1) := by decide +kernel
theorem dX9_inner_13 : decode cX9_inner 13 = .ok (.getfield 39, 3) := by decide +kernel
theorem dX9_inner_16 : decode cX9_inner 16 = .ok (.iload_n 2, 1) := by decide +kernel
theorem dX9_inner_17 : decode cX9_inner 17 = .ok (.iaload, 1) := by decide +kernel
theorem dX9_inner_18 : decode cX9_inner 18 = .ok (.bipush 30, 2) := by decide +kernel
theorem dX9_inner_20 : decode cX9_inner 20 = .ok (.if_icmp .lt 12, 3) := by decide +kernel
theorem dX9_inner_23 : decode cX9_inner 23 = .ok (.aload_n 0, 1) := by decide +kernel
theorem dX9_inner_24 : decode cX9_inner 24 = .ok (.getfield 39, 3) := by decide +kernel
theorem dX9_inner_27 : decode cX9_inner 27 = .ok (.iload_n 2, 1) := by decide +kernel
theorem dX9_inner_28 : decode cX9_inner 28 = .ok (.iaload, 1) := by decide +kernel
theorem dX9_inner_29 : decode cX9_inner 29 = .ok (.goto 4, 3) := by decide +kernel
theorem dX9_inner_32 : decode cX9_inner 32 = .ok (.iload_n 1, 1) := by decide +kernel
theorem dX9_inner_33 : decode cX9_inner 33 = .ok (.istore_n 1, 1) := by decide +kernel
theorem dX9_inner_34 : decode cX9_inner 34 = .ok (.iinc 2 1, 3) := by decide +kernel
theorem dX9_inner_37 : decode cX9_inner 37 = .ok (.goto (-33), 3) := by decide +kernel
theorem dX9_inner_40 : decode cX9_inner 40 = .ok (.iload_n 1, 1) := by decide +kernel
theorem dX9_inner_41 : decode cX9_inner 41 = .ok (.ireturn, 1) := by decide +kernel
def bX9_inner_0 (l : Launch) (E : Ev) (d : Nat) (Q : Option Value → Hp → Prop) : Kt := k_push (.int (-1)) (k_istore 1 (k_push (.int 0) (k_istore 2 (Go l E YX9_inner (d + 1) 0 0 Q 0 0 4))))
set_option maxRecDepth 100000 in
set_option maxHeartbeats 4000000 in
theorem gX9_inner_0 {l : Launch} {E : Ev} {d : Nat} {Q : Option Value → Hp → Prop} {ls : Lv} {st : List Value} {h : Hp} (hB : bX9_inner_0 l E d Q ls st h) : Go l E YX9_inner (d + 1) 0 0 Q 0 0 0 ls st h :=
  (sd_iconst (v := (-1)) (by decide) dX9_inner_0 (sd_istore_n (i := 1) rfl (by decide) dX9_inner_1 (sd_iconst (v := 0) (by decide) dX9_inner_2 (sd_istore_n (i := 2) rfl (by decide) dX9_inner_3 (Sd.go)))) : Sd l E YX9_inner (d + 1) 0 0 Q 0 0 0 (bX9_inner_0 l E d Q)) ls st h hB
def bX9_inner_4 (l : Launch) (E : Ev) (d : Nat) (Q : Option Value → Hp → Prop) : Kt := k_iload 2 (k_aload 0 (k_getI 9 55 23 (k_icmp_ge (k_iload 1 (k_iret .int Q)) (k_aload 0 (k_getR 9 55 21 (k_iload 2 (k_iaload (k_push (.int 30) (k_icmp_lt (k_iload 1 (k_istore 1 (k_iinc 2 1 (Go l E YX9_inner (d + 1) 0 0 Q 0 0 4)))) (k_aload 0 (k_getR 9 55 21 (k_iload 2 (k_iaload (k_istore 1 (k_iinc 2 1 (Go l E YX9_inner (d + 1) 0 0 Q 0 0 4))))))))))))))))
set_option maxRecDepth 100000 in
set_option maxHeartbeats 4000000 in
theorem gX9_inner_4 {l : Launch} {E : Ev} {d : Nat} {Q : Option Value → Hp → Prop} {ls : Lv} {st : List Value} {h : Hp} (hB : bX9_inner_4 l E d Q ls st h) : Go l E YX9_inner (d + 1) 0 0 Q 0 0 4 ls st h :=
  (sd_iload_n (i := 2) rfl dX9_inner_4 (sd_aload_n (i := 0) rfl dX9_inner_5 (sd_getI clsX9 (f := 23) (by decide) (fun _ _ _ => rfl) mw_1201 dX9_inner_6 (sd_icmp_ge (tgt := 40) (by decide) dX9_inner_9 (sd_iload_n (i := 1) rfl dX9_inner_40 (sd_iret (ty := .int) rfl (by decide) (by decide) dX9_inner_41)) (sd_aload_n (i := 0) rfl dX9_inner_12 (sd_getR clsX9 (f := 21) (by decide) (fun _ _ _ => rfl) mw_1199 dX9_inner_13 (sd_iload_n (i := 2) rfl dX9_inner_16 (sd_iaload dX9_inner_17 (sd_bipush (v := 30) (by decide) dX9_inner_18 (sd_icmp_lt (tgt := 32) (by decide) dX9_inner_20 (sd_iload_n (i := 1) rfl dX9_inner_32 (sd_istore_n (i := 1) rfl (by decide) dX9_inner_33 (sd_iinc (i := 2) (v := 1) (by decide) (by decide) dX9_inner_34 (sd_goto (tgt := 4) (by decide) dX9_inner_37 (Sd.go))))) (sd_aload_n (i := 0) rfl dX9_inner_23 (sd_getR clsX9 (f := 21) (by decide) (fun _ _ _ => rfl) mw_1199 dX9_inner_24 (sd_iload_n (i := 2) rfl dX9_inner_27 (sd_iaload dX9_inner_28 (sd_goto (tgt := 33) (by decide) dX9_inner_29 (sd_istore_n (i := 1) rfl (by decide) dX9_inner_33 (sd_iinc (i := 2) (v := 1) (by decide) (by decide) dX9_inner_34 (sd_goto (tgt := 4) (by decide) dX9_inner_37 (Sd.go)))))))))))))))))) : Sd l E YX9_inner (d + 1) 0 0 Q 0 0 4 (bX9_inner_4 l E d Q)) ls st h hB
theorem eX9_inner {l : Launch} {E : Ev} {d : Nat} {Q : Option Value → Hp → Prop} {h : Hp} {a0 : Nat} (hk : Go l E YX9_inner d 0 0 Q 0 0 0 [some (.ref a0), none, none] [] h) : GoM l E YX9_inner d 0 0 [.ref a0] h Q := GoM.of (by decide +kernel) rfl (by simp [entA, YX9_inner]) hk
theorem dX9_isCompared_0 : decode cX9_isCompared 0 = .ok (.aload_n 0, 1) := by decide +kernel
theorem dX9_isCompared_1 : decode cX9_isCompared 1 = .ok (.getfield 226, 3) := by decide +kernel
theorem dX9_isCompared_4 : decode cX9_isCompared 4 = .ok (.iconst 1, 1) := by decide +kernel
theorem dX9_isCompared_5 : decode cX9_isCompared 5 = .ok (.isub, 1) := by decide +kernel
theorem dX9_isCompared_6 : decode cX9_isCompared 6 = .ok (.istore_n 1, 1) := by decide +kernel
theorem dX9_isCompared_7 : decode cX9_isCompared 7 = .ok (.iload_n 1, 1) := by decide +kernel
theorem dX9_isCompared_8 : decode cX9_isCompared 8 = .ok (.ifCond .lt 28, 3) := by decide +kernel
theorem dX9_isCompared_11 : decode cX9_isCompared 11 = .ok (.aload_n 0, 1) := by decide +kernel
theorem dX9_isCompared_12 : decode cX9_isCompared 12 = .ok (.getfield 39, 3) := by decide +kernel
theorem dX9_isCompared_15 : decode cX9_isCompared 15 = .ok (.iload_n 1, 1) := by decide +kernel
theorem dX9_isCompared_16 : decode cX9_isCompared 16 = .ok (.iaload, 1) := by decide +kernel
theorem dX9_isCompared_17 : decode cX9_isCompared 17 = .ok (.i2l, 1) := by decide +kernel
theorem dX9_isCompared_18 : decode cX9_isCompared 18 = .ok (.ldc2_w 236, 3) := by decide +kernel
theorem dX9_isCompared_21 : decode cX9_isCompared 21 = .ok (.ldc2_w 238, 3) := by decide +kernel
theorem dX9_isCompared_24 : decode cX9_isCompared 24 = .ok (.invokestatic 133, 3) := by decide +kernel
theorem dX9_isCompared_27 : decode cX9_isCompared 27 = .ok (.ifCond .eq 9, 3) := by decide +kernel
theorem dX9_isCompared_30 : decode cX9_isCompared 30 = .ok (.iinc 1 (-1), 3) := by decide +kernel
theorem dX9_isCompared_33 : decode cX9_isCompared 33 = .ok (.goto (-26), 3) := by decide +kernel
theorem dX9_isCompared_36 : decode cX9_isCompared 36 = .ok (.iload_n 1, 1) := by decide +kernel
theorem dX9_isCompared_37 : decode cX9_isCompared 37 = .ok (.ifCond .lt 26, 3) := by decide +kernel
theorem dX9_isCompared_40 : decode cX9_isCompared 40 = .ok (.aload_n 0, 1) := by decide +kernel
theorem dX9_isCompared_41 : decode cX9_isCompared 41 = .ok (.getfield 39, 3) := by decide +kernel
theorem dX9_isCompared_44 : decode cX9_isCompared 44 = .ok (.iload_n 1, 1) := by decide +kernel
theorem dX9_isCompared_45 : decode cX9_isCompared 45 = .ok (.iaload, 1) := by decide +kernel
theorem dX9_isCompared_46 : decode cX9_isCompared 46 = .ok (.i2l, 1) := by decide +kernel
theorem dX9_isCompared_47 : decode cX9_isCompared 47 = .ok (.ldc2_w 240, 3) := by decide +kernel
theorem dX9_isCompared_50 : decode cX9_isCompared 50 = .ok (.ldc2_w 242, 3) := by decide +kernel
theorem dX9_isCompared_53 : decode cX9_isCompared 53 = .ok (.invokestatic 133, 3) := by decide +kernel
theorem dX9_isCompared_56 : decode cX9_isCompared 56 = .ok (.ifCond .eq 7, 3) := by decide +kernel
theorem dX9_isCompared_59 : decode cX9_isCompared 59 = .ok (.iconst 1, 1) := by decide +kernel
theorem dX9_isCompared_60 : decode cX9_isCompared 60 = .ok (.goto 4, 3) := by decide +kernel
theorem dX9_isCompared_63 : decode cX9_isCompared 63 = .ok (.iconst 0, 1) := by decide +kernel
theorem dX9_isCompared_64 : decode cX9_isCompared 64 = .ok (.ireturn, 1) := by decide +kernel
def bX9_isCompared_0 (l : Launch) (E : Ev) (d : Nat) (Q : Option Value → Hp → Prop) : Kt := k_aload 0 (k_getI 9 55 23 (k_push (.int 1) (k_isub (k_istore 1 (Go l E YX9_isCompared (d + 1) 0 0 Q 0 0 7)))))
set_option maxRecDepth 100000 in
set_option maxHeartbeats 4000000 in
theorem gX9_isCompared_0 {l : Launch} {E : Ev} {d : Nat} {Q : Option Value → Hp → Prop} {ls : Lv} {st : List Value} {h : Hp} (hB : bX9_isCompared_0 l E d Q ls st h) : Go l E YX9_isCompared (d + 1) 0 0 Q 0 0 0 ls st h :=
  (sd_aload_n (i := 0) rfl dX9_isCompared_0 (sd_getI clsX9 (f := 23) (by decide) (fun _ _ _ => rfl) mw_1201 dX9_isCompared_1 (sd_iconst (v := 1) (by decide) dX9_isCompared_4 (sd_isub dX9_isCompared_5 (sd_istore_n (i := 1) rfl (by decide) dX9_isCompared_6 (Sd.go))))) : Sd l E YX9_isCompared (d + 1) 0 0 Q 0 0 0 (bX9_isCompared_0 l E d Q)) ls st h hB
def bX9_isCompared_7 (l : Launch) (E : Ev) (d : Nat) (Q : Option Value → Hp → Prop) : Kt := k_iload 1 (k_if_lt (Go l E YX9_isCompared (d + 1) 0 0 Q 0 0 36) (k_aload 0 (k_getR 9 55 21 (k_iload 1 (k_iaload (k_i2l (k_push (.long 20) (k_push (.long 23) (k_callS l E YX9_in d 0 0 3 (k_if_eq (Go l E YX9_isCompared (d + 1) 0 0 Q 0 0 36) (k_iinc 1 (-1) (Go l E YX9_isCompared (d + 1) 0 0 Q 0 0 7))))))))))))
set_option maxRecDepth 100000 in
set_option maxHeartbeats 4000000 in
theorem gX9_isCompared_7 {l : Launch} {E : Ev} {d : Nat} {Q : Option Value → Hp → Prop} {ls : Lv} {st : List Value} {h : Hp} (hB : bX9_isCompared_7 l E d Q ls st h) : Go l E YX9_isCompared (d + 1) 0 0 Q 0 0 7 ls st h :=
  (sd_iload_n (i := 1) rfl dX9_isCompared_7 (sd_if_lt (tgt := 36) (by decide) dX9_isCompared_8 (Sd.go) (sd_aload_n (i := 0) rfl dX9_isCompared_11 (sd_getR clsX9 (f := 21) (by decide) (fun _ _ _ => rfl) mw_1199 dX9_isCompared_12 (sd_iload_n (i := 1) rfl dX9_isCompared_15 (sd_iaload dX9_isCompared_16 (sd_i2l dX9_isCompared_17 (sd_ldc2 (v := 20) mw_1539 dX9_isCompared_18 (sd_ldc2 (v := 23) mw_1540 dX9_isCompared_21 (sd_callS (Y' := YX9_in) (mc' := 0) (ms' := 0) (n := 3) mw_1348 mw_1349 mw_108 mw_1350 (okmX9_in) (by decide) (Nat.le_refl _) (by decide) (by decide) dX9_isCompared_24 (sd_if_eq (tgt := 36) (by decide) dX9_isCompared_27 (Sd.go) (sd_iinc (i := 1) (v := (-1)) (by decide) (by decide) dX9_isCompared_30 (sd_goto (tgt := 7) (by decide) dX9_isCompared_33 (Sd.go))))))))))))) : Sd l E YX9_isCompared (d + 1) 0 0 Q 0 0 7 (bX9_isCompared_7 l E d Q)) ls st h hB
def bX9_isCompared_36 (l : Launch) (E : Ev) (d : Nat) (Q : Option Value → Hp → Prop) : Kt := k_iload 1 (k_if_lt (k_push (.int 0) (k_iret .boolean Q)) (k_aload 0 (k_getR 9 55 21 (k_iload 1 (k_iaload (k_i2l (k_push (.long 24) (k_push (.long 26) (k_callS l E YX9_in d 0 0 3 (k_if_eq (k_push (.int 0) (k_iret .boolean Q)) (k_push (.int 1) (k_iret .boolean Q))))))))))))
set_option maxRecDepth 100000 in
set_option maxHeartbeats 4000000 in
theorem gX9_isCompared_36 {l : Launch} {E : Ev} {d : Nat} {Q : Option Value → Hp → Prop} {ls : Lv} {st : List Value} {h : Hp} (hB : bX9_isCompared_36 l E d Q ls st h) : Go l E YX9_isCompared (d + 1) 0 0 Q 0 0 36 ls st h :=
  (sd_iload_n (i := 1) rfl dX9_isCompared_36 (sd_if_lt (tgt := 63) (by decide) dX9_isCompared_37 (sd_iconst (v := 0) (by decide) dX9_isCompared_63 (sd_iret (ty := .boolean) rfl (by decide) (by decide) dX9_isCompared_64)) (sd_aload_n (i := 0) rfl dX9_isCompared_40 (sd_getR clsX9 (f := 21) (by decide) (fun _ _ _ => rfl) mw_1199 dX9_isCompared_41 (sd_iload_n (i := 1) rfl dX9_isCompared_44 (sd_iaload dX9_isCompared_45 (sd_i2l dX9_isCompared_46 (sd_ldc2 (v := 24) mw_1541 dX9_isCompared_47 (sd_ldc2 (v := 26) mw_1542 dX9_isCompared_50 (sd_callS (Y' := YX9_in) (mc' := 0) (ms' := 0) (n := 3) mw_1348 mw_1349 mw_108 mw_1350 (okmX9_in) (by decide) (Nat.le_refl _) (by decide) (by decide) dX9_isCompared_53 (sd_if_eq (tgt := 63) (by decide) dX9_isCompared_56 (sd_iconst (v := 0) (by decide) dX9_isCompared_63 (sd_iret (ty := .boolean) rfl (by decide) (by decide) dX9_isCompared_64)) (sd_iconst (v := 1) (by decide) dX9_isCompared_59 (sd_goto (tgt := 64) (by decide) dX9_isCompared_60 (sd_iret (ty := .boolean) rfl (by decide) (by decide) dX9_isCompared_64))))))))))))) : Sd l E YX9_isCompared (d + 1) 0 0 Q 0 0 36 (bX9_isCompared_36 l E d Q)) ls st h hB
theorem eX9_isCompared {l : Launch} {E : Ev} {d : Nat} {Q : Option Value → Hp → Prop} {h : Hp} {a0 : Nat} (hk : Go l E YX9_isCompared d 0 0 Q 0 0 0 [some (.ref a0), none] [] h) : GoM l E YX9_isCompared d 0 0 [.ref a0] h Q := GoM.of (by decide +kernel) rfl (by simp [entA, YX9_isCompared]) hk
