theorem dX8_force_0 : decode cX8_force 0 = .ok (.iload_n 1, 1) := by decide +kernel
theorem dX8_force_1 : decode cX8_force 1 = .ok (.iconst (-1), 1) := by decide +kernel
theorem dX8_force_2 : decode cX8_force 2 = .ok (.if_icmp .lt 14, 3) := by decide +kernel
theorem dX8_force_5 : decode cX8_force 5 = .ok (.iload_n 1, 1) := by decide +kernel
theorem dX8_force_6 : decode cX8_force 6 = .ok (.aload_n 0, 1) := by decide +kernel
theorem dX8_force_7 : decode cX8_force 7 = .ok (.getfield 10, 3) := by decide +kernel
theorem dX8_force_10 : decode cX8_force 10 = .ok (.getfield 164, 3) := by decide +kernel
theorem dX8_force_13 : decode cX8_force 13 = .ok (.if_icmp .lt 10, 3) := by decide +kernel
theorem dX8_force_16 : decode cX8_force 16 = .ok (.aload_n 0, 1) := by decide +kernel
theorem dX8_force_17 : decode cX8_force 17 = .ok (.bipush (-2), 2) := by decide +kernel
theorem dX8_force_19 : decode cX8_force 19 = .ok (.invokevirtual 89, 3) := by decide +kernel
theorem dX8_force_22 : decode cX8_force 22 = .ok (.ireturn, 1) := by decide +kernel
theorem dX8_force_23 : decode cX8_force 23 = .ok (.aload_n 0, 1) := by decide +kernel
theorem dX8_force_24 : decode cX8_force 24 = .ok (.getfield 10, 3) := by decide +kernel
theorem dX8_force_27 : decode cX8_force 27 = .ok (.getfield 178, 3) := by decide +kernel
theorem dX8_force_30 : decode cX8_force 30 = .ok (.istore_n 2, 1) := by decide +kernel
theorem dX8_force_31 : decode cX8_force 31 = .ok (.aload_n 0, 1) := by decide +kernel
theorem dX8_force_32 : decode cX8_force 32 = .ok (.getfield 10, 3) := by decide +kernel
theorem dX8_force_35 : decode cX8_force 35 = .ok (.iload_n 1, 1) := by decide +kernel
theorem dX8_force_36 : decode cX8_force 36 = .ok (.putfield 178, 3) := by decide +kernel
theorem dX8_force_39 : decode cX8_force 39 = .ok (.aload_n 0, 1) := by decide +kernel
theorem dX8_force_40 : decode cX8_force 40 = .ok (.iload_n 2, 1) := by decide +kernel
theorem dX8_force_41 : decode cX8_force 41 = .ok (.invokevirtual 99, 3) := by decide +kernel
theorem dX8_force_44 : decode cX8_force 44 = .ok (.ireturn, 1) := by decide +kernel
def bX8_force_0 (l : Launch) (E : Ev) (d : Nat) (Q : Option Value → Hp → Prop) : Kt := k_iload 1 (k_push (.int (-1)) (k_icmp_lt (Go l E YX8_force (d + 1) 0 0 Q 0 0 16) (k_iload 1 (k_aload 0 (k_getR 8 19 0 (k_getI 7 15 9 (k_icmp_lt (k_aload 0 (k_getR 8 19 0 (k_getI 7 15 10 (k_istore 2 (k_aload 0 (k_getR 8 19 0 (k_iload 1 (k_putI 7 15 10 (k_aload 0 (k_iload 2 (k_callV l E 8 19 YX8_accept d 0 0 1 (k_iret .int Q)))))))))))) (Go l E YX8_force (d + 1) 0 0 Q 0 0 16))))))))
set_option maxRecDepth 100000 in
set_option maxHeartbeats 4000000 in
theorem gX8_force_0 {l : Launch} {E : Ev} {d : Nat} {Q : Option Value → Hp → Prop} {ls : Lv} {st : List Value} {h : Hp} (hB : bX8_force_0 l E d Q ls st h) : Go l E YX8_force (d + 1) 0 0 Q 0 0 0 ls st h :=
  (sd_iload_n (i := 1) rfl dX8_force_0 (sd_iconst (v := (-1)) (by decide) dX8_force_1 (sd_icmp_lt (tgt := 16) (by decide) dX8_force_2 (Sd.go) (sd_iload_n (i := 1) rfl dX8_force_5 (sd_aload_n (i := 0) rfl dX8_force_6 (sd_getR clsX8 (f := 0) (by decide) (fun _ _ _ => rfl) mw_431 dX8_force_7 (sd_getI clsX7 (f := 9) (by decide) (fun _ _ _ => rfl) mw_170 dX8_force_10 (sd_icmp_lt (tgt := 23) (by decide) dX8_force_13 (sd_aload_n (i := 0) rfl dX8_force_23 (sd_getR clsX8 (f := 0) (by decide) (fun _ _ _ => rfl) mw_431 dX8_force_24 (sd_getI clsX7 (f := 10) (by decide) (fun _ _ _ => rfl) mw_172 dX8_force_27 (sd_istore_n (i := 2) rfl (by decide) dX8_force_30 (sd_aload_n (i := 0) rfl dX8_force_31 (sd_getR clsX8 (f := 0) (by decide) (fun _ _ _ => rfl) mw_431 dX8_force_32 (sd_iload_n (i := 1) rfl dX8_force_35 (sd_putI clsX7 (f := 10) (by decide) (fun _ _ _ => rfl) rfl (Or.inl rfl) mw_172 dX8_force_36 (sd_aload_n (i := 0) rfl dX8_force_39 (sd_iload_n (i := 2) rfl dX8_force_40 (sd_callV (Y' := YX8_accept) (mc' := 0) (ms' := 0) (n := 1) clsX8.1 mw_504 mw_506 mw_1 mw_100 mw_507 rfl (okmX8_accept) (by decide) (Nat.le_refl _) (by decide) (by decide) dX8_force_41 (sd_iret (ty := .int) rfl (by decide) (by decide) dX8_force_44)))))))))))) (Sd.go)))))))) : Sd l E YX8_force (d + 1) 0 0 Q 0 0 0 (bX8_force_0 l E d Q)) ls st h hB
def bX8_force_16 (l : Launch) (E : Ev) (d : Nat) (Q : Option Value → Hp → Prop) : Kt := k_aload 0 (k_push (.int (-2)) (k_callV l E 8 19 YX8_refuse d 0 0 1 (k_iret .int Q)))
set_option maxRecDepth 100000 in
set_option maxHeartbeats 4000000 in
theorem gX8_force_16 {l : Launch} {E : Ev} {d : Nat} {Q : Option Value → Hp → Prop} {ls : Lv} {st : List Value} {h : Hp} (hB : bX8_force_16 l E d Q ls st h) : Go l E YX8_force (d + 1) 0 0 Q 0 0 16 ls st h :=
  (sd_aload_n (i := 0) rfl dX8_force_16 (sd_bipush (v := (-2)) (by decide) dX8_force_17 (sd_callV (Y' := YX8_refuse) (mc' := 0) (ms' := 0) (n := 1) clsX8.1 mw_500 mw_502 mw_0 mw_100 mw_503 rfl (okmX8_refuse) (by decide) (Nat.le_refl _) (by decide) (by decide) dX8_force_19 (sd_iret (ty := .int) rfl (by decide) (by decide) dX8_force_22))) : Sd l E YX8_force (d + 1) 0 0 Q 0 0 16 (bX8_force_16 l E d Q)) ls st h hB
theorem eX8_force {l : Launch} {E : Ev} {d : Nat} {Q : Option Value → Hp → Prop} {h : Hp} {a0 : Nat} {x1 : Int32} (hk : Go l E YX8_force d 0 0 Q 0 0 0 [some (.ref a0), some (.int x1), none] [] h) : GoM l E YX8_force d 0 0 [.ref a0, .int x1] h Q := GoM.of (by decide +kernel) rfl (by simp [entA, YX8_force]) hk
theorem dX8_night_0 : decode cX8_night 0 = .ok (.iload_n 1, 1) := by decide +kernel
theorem dX8_night_1 : decode cX8_night 1 = .ok (.tableswitch 66 0 2 #[27, 40, 53], 27) := by decide +kernel
theorem dX8_night_28 : decode cX8_night 28 = .ok (.aload_n 0, 1) := by decide +kernel
theorem dX8_night_29 : decode cX8_night 29 = .ok (.iconst 2, 1) := by decide +kernel
theorem dX8_night_30 : decode cX8_night 30 = .ok (.invokevirtual 181, 3) := by decide +kernel
theorem dX8_night_33 : decode cX8_night 33 = .ok (.aload_n 0, 1) := by decide +kernel
theorem dX8_night_34 : decode cX8_night 34 = .ok (.getfield 184, 3) := by decide +kernel
theorem dX8_night_37 : decode cX8_night 37 = .ok (.invokestatic 188, 3) := by decide +kernel
theorem dX8_night_40 : decode cX8_night 40 = .ok (.ireturn, 1) := by decide +kernel
theorem dX8_night_41 : decode cX8_night 41 = .ok (.aload_n 0, 1) := by decide +kernel
theorem dX8_night_42 : decode cX8_night 42 = .ok (.iconst 4, 1) := by decide +kernel
theorem dX8_night_43 : decode cX8_night 43 = .ok (.invokevirtual 181, 3) := by decide +kernel
theorem dX8_night_46 : decode cX8_night 46 = .ok (.aload_n 0, 1) := by decide +kernel
theorem dX8_night_47 : decode cX8_night 47 = .ok (.getfield 57, 3) := by decide +kernel
theorem dX8_night_50 : decode cX8_night 50 = .ok (.getfield 192, 3) := by decide +kernel
theorem dX8_night_53 : decode cX8_night 53 = .ok (.ireturn, 1) := by decide +kernel
theorem dX8_night_54 : decode cX8_night 54 = .ok (.aload_n 0, 1) := by decide +kernel
theorem dX8_night_55 : decode cX8_night 55 = .ok (.iconst 4, 1) := by decide +kernel
theorem dX8_night_56 : decode cX8_night 56 = .ok (.invokevirtual 181, 3) := by decide +kernel
theorem dX8_night_59 : decode cX8_night 59 = .ok (.aload_n 0, 1) := by decide +kernel
theorem dX8_night_60 : decode cX8_night 60 = .ok (.getfield 57, 3) := by decide +kernel
theorem dX8_night_63 : decode cX8_night 63 = .ok (.getfield 195, 3) := by decide +kernel
theorem dX8_night_66 : decode cX8_night 66 = .ok (.ireturn, 1) := by decide +kernel
theorem dX8_night_67 : decode cX8_night 67 = .ok (.iconst (-1), 1) := by decide +kernel
theorem dX8_night_68 : decode cX8_night 68 = .ok (.ireturn, 1) := by decide +kernel
def bX8_night_0 (l : Launch) (E : Ev) (d : Nat) (Q : Option Value → Hp → Prop) : Kt := k_iload 1 (k_sw [(0, (k_aload 0 (k_push (.int 2) (k_callV l E 8 19 YX8_renew d 0 0 1 (k_aload 0 (k_getJ 8 19 18 (k_callS l E YX3_costIn d 0 0 1 (k_iret .int Q)))))))), (1, (k_aload 0 (k_push (.int 4) (k_callV l E 8 19 YX8_renew d 0 0 1 (k_aload 0 (k_getR 8 19 13 (k_getI 3 10 6 (k_iret .int Q)))))))), (2, (k_aload 0 (k_push (.int 4) (k_callV l E 8 19 YX8_renew d 0 0 1 (k_aload 0 (k_getR 8 19 13 (k_getI 3 10 7 (k_iret .int Q))))))))] (k_push (.int (-1)) (k_iret .int Q)))
set_option maxRecDepth 100000 in
set_option maxHeartbeats 4000000 in
theorem gX8_night_0 {l : Launch} {E : Ev} {d : Nat} {Q : Option Value → Hp → Prop} {ls : Lv} {st : List Value} {h : Hp} (hB : bX8_night_0 l E d Q ls st h) : Go l E YX8_night (d + 1) 0 0 Q 0 0 0 ls st h :=
  (sd_iload_n (i := 1) rfl dX8_night_0 (sd_table dX8_night_1 (dt := 67) (by decide) (sd_iconst (v := (-1)) (by decide) dX8_night_67 (sd_iret (ty := .int) rfl (by decide) (by decide) dX8_night_68)) rfl (tb_all (tb_cons (off := 27) (tgt := 28) (by decide) rfl (by decide) (sd_aload_n (i := 0) rfl dX8_night_28 (sd_iconst (v := 2) (by decide) dX8_night_29 (sd_callV (Y' := YX8_renew) (mc' := 0) (ms' := 0) (n := 1) clsX8.1 mw_772 mw_774 mw_15 mw_100 mw_775 rfl (okmX8_renew) (by decide) (Nat.le_refl _) (by decide) (by decide) dX8_night_30 (sd_aload_n (i := 0) rfl dX8_night_33 (sd_getJ clsX8 (f := 18) (by decide) (fun _ _ _ => rfl) mw_449 dX8_night_34 (sd_callS (Y' := YX3_costIn) (mc' := 0) (ms' := 0) (n := 1) mw_892 mw_893 mw_104 mw_894 (okmX3_costIn) (by decide) (Nat.le_refl _) (by decide) (by decide) dX8_night_37 (sd_iret (ty := .int) rfl (by decide) (by decide) dX8_night_40))))))) (tb_cons (off := 40) (tgt := 41) (by decide) rfl (by decide) (sd_aload_n (i := 0) rfl dX8_night_41 (sd_iconst (v := 4) (by decide) dX8_night_42 (sd_callV (Y' := YX8_renew) (mc' := 0) (ms' := 0) (n := 1) clsX8.1 mw_772 mw_774 mw_15 mw_100 mw_775 rfl (okmX8_renew) (by decide) (Nat.le_refl _) (by decide) (by decide) dX8_night_43 (sd_aload_n (i := 0) rfl dX8_night_46 (sd_getR clsX8 (f := 13) (by decide) (fun _ _ _ => rfl) mw_444 dX8_night_47 (sd_getI clsX3 (f := 6) (by decide) (fun _ _ _ => rfl) mw_315 dX8_night_50 (sd_iret (ty := .int) rfl (by decide) (by decide) dX8_night_53))))))) (tb_cons (off := 53) (tgt := 54) (by decide) rfl (by decide) (sd_aload_n (i := 0) rfl dX8_night_54 (sd_iconst (v := 4) (by decide) dX8_night_55 (sd_callV (Y' := YX8_renew) (mc' := 0) (ms' := 0) (n := 1) clsX8.1 mw_772 mw_774 mw_15 mw_100 mw_775 rfl (okmX8_renew) (by decide) (Nat.le_refl _) (by decide) (by decide) dX8_night_56 (sd_aload_n (i := 0) rfl dX8_night_59 (sd_getR clsX8 (f := 13) (by decide) (fun _ _ _ => rfl) mw_444 dX8_night_60 (sd_getI clsX3 (f := 7) (by decide) (fun _ _ _ => rfl) mw_317 dX8_night_63 (sd_iret (ty := .int) rfl (by decide) (by decide) dX8_night_66))))))) (tb_nil)))))) : Sd l E YX8_night (d + 1) 0 0 Q 0 0 0 (bX8_night_0 l E d Q)) ls st h hB
theorem eX8_night {l : Launch} {E : Ev} {d : Nat} {Q : Option Value → Hp → Prop} {h : Hp} {a0 : Nat} {x1 : Int32} (hk : Go l E YX8_night d 0 0 Q 0 0 0 [some (.ref a0), some (.int x1)] [] h) : GoM l E YX8_night d 0 0 [.ref a0, .int x1] h Q := GoM.of (by decide +kernel) rfl (by simp [entA, YX8_night]) hk
theorem dX8_who_0 : decode cX8_who 0 = .ok (.aload_n 0, 1) := by decide +kernel
theorem dX8_who_1 : decode cX8_who 1 = .ok (.iconst 2, 1) := by decide +kernel
theorem dX8_who_2 : decode cX8_who 2 = .ok (.invokevirtual 181, 3) := by decide +kernel
theorem dX8_who_5 : decode cX8_who 5 = .ok (.aload_n 0, 1) := by decide +kernel
theorem dX8_who_6 : decode cX8_who 6 = .ok (.getfield 10, 3) := by decide +kernel
theorem dX8_who_9 : decode cX8_who 9 = .ok (.iload_n 1, 1) := by decide +kernel
theorem dX8_who_10 : decode cX8_who 10 = .ok (.invokevirtual 115, 3) := by decide +kernel
theorem dX8_who_13 : decode cX8_who 13 = .ok (.ifCond .eq 14, 3) := by decide +kernel
theorem dX8_who_16 : decode cX8_who 16 = .ok (.aload_n 0, 1) := by decide +kernel
theorem dX8_who_17 : decode cX8_who 17 = .ok (.getfield 184, 3) := by decide +kernel
theorem dX8_who_20 : decode cX8_who 20 = .ok (.iload_n 1, 1) := by decide +kernel
theorem dX8_who_21 : decode cX8_who 21 = .ok (.invokestatic 198, 3) := by decide +kernel
theorem dX8_who_24 : decode cX8_who 24 = .ok (.goto 4, 3) := by decide +kernel
theorem dX8_who_27 : decode cX8_who 27 = .ok (.iconst (-1), 1) := by decide +kernel
theorem dX8_who_28 : decode cX8_who 28 = .ok (.ireturn, 1) := by decide +kernel
def bX8_who_0 (l : Launch) (E : Ev) (d : Nat) (Q : Option Value → Hp → Prop) : Kt := k_aload 0 (k_push (.int 2) (k_callV l E 8 19 YX8_renew d 0 0 1 (k_aload 0 (k_getR 8 19 0 (k_iload 1 (k_callV l E 7 15 YX7_hasPart d 0 0 1 (k_if_eq (k_push (.int (-1)) (k_iret .int Q)) (k_aload 0 (k_getJ 8 19 18 (k_iload 1 (k_callS l E YX3_playerIn d 0 0 2 (k_iret .int Q))))))))))))
set_option maxRecDepth 100000 in
set_option maxHeartbeats 4000000 in
theorem gX8_who_0 {l : Launch} {E : Ev} {d : Nat} {Q : Option Value → Hp → Prop} {ls : Lv} {st : List Value} {h : Hp} (hB : bX8_who_0 l E d Q ls st h) : Go l E YX8_who (d + 1) 0 0 Q 0 0 0 ls st h :=
  (sd_aload_n (i := 0) rfl dX8_who_0 (sd_iconst (v := 2) (by decide) dX8_who_1 (sd_callV (Y' := YX8_renew) (mc' := 0) (ms' := 0) (n := 1) clsX8.1 mw_772 mw_774 mw_15 mw_100 mw_775 rfl (okmX8_renew) (by decide) (Nat.le_refl _) (by decide) (by decide) dX8_who_2 (sd_aload_n (i := 0) rfl dX8_who_5 (sd_getR clsX8 (f := 0) (by decide) (fun _ _ _ => rfl) mw_431 dX8_who_6 (sd_iload_n (i := 1) rfl dX8_who_9 (sd_callV (Y' := YX7_hasPart) (mc' := 0) (ms' := 0) (n := 1) clsX7.1 mw_529 mw_530 mw_531 mw_101 mw_532 rfl (okmX7_hasPart) (by decide) (Nat.le_refl _) (by decide) (by decide) dX8_who_10 (sd_if_eq (tgt := 27) (by decide) dX8_who_13 (sd_iconst (v := (-1)) (by decide) dX8_who_27 (sd_iret (ty := .int) rfl (by decide) (by decide) dX8_who_28)) (sd_aload_n (i := 0) rfl dX8_who_16 (sd_getJ clsX8 (f := 18) (by decide) (fun _ _ _ => rfl) mw_449 dX8_who_17 (sd_iload_n (i := 1) rfl dX8_who_20 (sd_callS (Y' := YX3_playerIn) (mc' := 0) (ms' := 0) (n := 2) mw_902 mw_903 mw_104 mw_904 (okmX3_playerIn) (by decide) (Nat.le_refl _) (by decide) (by decide) dX8_who_21 (sd_goto (tgt := 28) (by decide) dX8_who_24 (sd_iret (ty := .int) rfl (by decide) (by decide) dX8_who_28))))))))))))) : Sd l E YX8_who (d + 1) 0 0 Q 0 0 0 (bX8_who_0 l E d Q)) ls st h hB
theorem eX8_who {l : Launch} {E : Ev} {d : Nat} {Q : Option Value → Hp → Prop} {h : Hp} {a0 : Nat} {x1 : Int32} (hk : Go l E YX8_who d 0 0 Q 0 0 0 [some (.ref a0), some (.int x1)] [] h) : GoM l E YX8_who d 0 0 [.ref a0, .int x1] h Q := GoM.of (by decide +kernel) rfl (by simp [entA, YX8_who]) hk
theorem dX8_changed_0 : decode cX8_changed 0 = .ok (.aload_n 0, 1) := by decide +kernel
theorem dX8_changed_1 : decode cX8_changed 1 = .ok (.iconst 2, 1) := by decide +kernel
theorem dX8_changed_2 : decode cX8_changed 2 = .ok (.invokevirtual 181, 3) := by decide +kernel
theorem dX8_changed_5 : decode cX8_changed 5 = .ok (.aload_n 0, 1) := by decide +kernel
theorem dX8_changed_6 : decode cX8_changed 6 = .ok (.getfield 184, 3) := by decide +kernel
theorem dX8_changed_9 : decode cX8_changed 9 = .ok (.invokestatic 202, 3) := by decide +kernel
theorem dX8_changed_12 : decode cX8_changed 12 = .ok (.ifCond .eq 5, 3) := by decide +kernel
theorem dX8_changed_15 : decode cX8_changed 15 = .ok (.iconst (-1), 1) := by decide +kernel
theorem dX8_changed_16 : decode cX8_changed 16 = .ok (.ireturn, 1) := by decide +kernel
theorem dX8_changed_17 : decode cX8_changed 17 = .ok (.iconst 0, 1) := by decide +kernel
theorem dX8_changed_18 : decode cX8_changed 18 = .ok (.istore_n 1, 1) := by decide +kernel
theorem dX8_changed_19 : decode cX8_changed 19 = .ok (.iconst 0, 1) := by decide +kernel
theorem dX8_changed_20 : decode cX8_changed 20 = .ok (.istore_n 2, 1) := by decide +kernel
theorem dX8_changed_21 : decode cX8_changed 21 = .ok (.iload_n 2, 1) := by decide +kernel
theorem dX8_changed_22 : decode cX8_changed 22 = .ok (.aload_n 0, 1) := by decide +kernel
theorem dX8_changed_23 : decode cX8_changed 23 = .ok (.getfield 10, 3) := by decide +kernel
theorem dX8_changed_26 : decode cX8_changed 26 = .ok (.getfield 105, 3) := by decide +kernel
theorem dX8_changed_29 : decode cX8_changed 29 = .ok (.if_icmp .ge 23, 3) := by decide +kernel
theorem dX8_changed_32 : decode cX8_changed 32 = .ok (.aload_n 0, 1) := by decide +kernel
theorem dX8_changed_33 : decode cX8_changed 33 = .ok (.iload_n 2, 1) := by decide +kernel
theorem dX8_changed_34 : decode cX8_changed 34 = .ok (.invokevirtual 206, 3) := by decide +kernel
theorem dX8_changed_37 : decode cX8_changed 37 = .ok (.ifCond .eq 9, 3) := by decide +kernel
theorem dX8_changed_40 : decode cX8_changed 40 = .ok (.iload_n 1, 1) := by decide +kernel
theorem dX8_changed_41 : decode cX8_changed 41 = .ok (.iconst 1, 1) := by decide +kernel
theorem dX8_changed_42 : decode cX8_changed 42 = .ok (.iload_n 2, 1) := by decide +kernel
theorem dX8_changed_43 : decode cX8_changed 43 = .ok (.ishl, 1) := by decide +kernel
theorem dX8_changed_44 : decode cX8_changed 44 = .ok (.ior, 1) := by decide +kernel
theorem dX8_changed_45 : decode cX8_changed 45 = .ok (.istore_n 1, 1) := by decide +kernel
theorem dX8_changed_46 : decode cX8_changed 46 = .ok (.iinc 2 1, 3) := by decide +kernel
theorem dX8_changed_49 : decode cX8_changed 49 = .ok (.goto (-28), 3) := by decide +kernel
theorem dX8_changed_52 : decode cX8_changed 52 = .ok (.iload_n 1, 1) := by decide +kernel
theorem dX8_changed_53 : decode cX8_changed 53 = .ok (.ireturn, 1) := by decide +kernel
def bX8_changed_0 (l : Launch) (E : Ev) (d : Nat) (Q : Option Value → Hp → Prop) : Kt := k_aload 0 (k_push (.int 2) (k_callV l E 8 19 YX8_renew d 0 0 1 (k_aload 0 (k_getJ 8 19 18 (k_callS l E YX3_isNone d 0 0 1 (k_if_eq (k_push (.int 0) (k_istore 1 (k_push (.int 0) (k_istore 2 (Go l E YX8_changed (d + 1) 0 0 Q 0 0 21))))) (k_push (.int (-1)) (k_iret .int Q))))))))
set_option maxRecDepth 100000 in
set_option maxHeartbeats 4000000 in
theorem gX8_changed_0 {l : Launch} {E : Ev} {d : Nat} {Q : Option Value → Hp → Prop} {ls : Lv} {st : List Value} {h : Hp} (hB : bX8_changed_0 l E d Q ls st h) : Go l E YX8_changed (d + 1) 0 0 Q 0 0 0 ls st h :=
  (sd_aload_n (i := 0) rfl dX8_changed_0 (sd_iconst (v := 2) (by decide) dX8_changed_1 (sd_callV (Y' := YX8_renew) (mc' := 0) (ms' := 0) (n := 1) clsX8.1 mw_772 mw_774 mw_15 mw_100 mw_775 rfl (okmX8_renew) (by decide) (Nat.le_refl _) (by decide) (by decide) dX8_changed_2 (sd_aload_n (i := 0) rfl dX8_changed_5 (sd_getJ clsX8 (f := 18) (by decide) (fun _ _ _ => rfl) mw_449 dX8_changed_6 (sd_callS (Y' := YX3_isNone) (mc' := 0) (ms' := 0) (n := 1) mw_909 mw_896 mw_104 mw_897 (okmX3_isNone) (by decide) (Nat.le_refl _) (by decide) (by decide) dX8_changed_9 (sd_if_eq (tgt := 17) (by decide) dX8_changed_12 (sd_iconst (v := 0) (by decide) dX8_changed_17 (sd_istore_n (i := 1) rfl (by decide) dX8_changed_18 (sd_iconst (v := 0) (by decide) dX8_changed_19 (sd_istore_n (i := 2) rfl (by decide) dX8_changed_20 (Sd.go))))) (sd_iconst (v := (-1)) (by decide) dX8_changed_15 (sd_iret (ty := .int) rfl (by decide) (by decide) dX8_changed_16)))))))) : Sd l E YX8_changed (d + 1) 0 0 Q 0 0 0 (bX8_changed_0 l E d Q)) ls st h hB
def bX8_changed_21 (l : Launch) (E : Ev) (d : Nat) (Q : Option Value → Hp → Prop) : Kt := k_iload 2 (k_aload 0 (k_getR 8 19 0 (k_getI 7 15 1 (k_icmp_ge (k_iload 1 (k_iret .int Q)) (k_aload 0 (k_iload 2 (k_callV l E 8 19 YX8_isChanged d 0 0 1 (k_if_eq (k_iinc 2 1 (Go l E YX8_changed (d + 1) 0 0 Q 0 0 21)) (k_iload 1 (k_push (.int 1) (k_iload 2 (k_ishl (k_ior (k_istore 1 (k_iinc 2 1 (Go l E YX8_changed (d + 1) 0 0 Q 0 0 21))))))))))))))))
set_option maxRecDepth 100000 in
set_option maxHeartbeats 4000000 in
theorem gX8_changed_21 {l : Launch} {E : Ev} {d : Nat} {Q : Option Value → Hp → Prop} {ls : Lv} {st : List Value} {h : Hp} (hB : bX8_changed_21 l E d Q ls st h) : Go l E YX8_changed (d + 1) 0 0 Q 0 0 21 ls st h :=
  (sd_iload_n (i := 2) rfl dX8_changed_21 (sd_aload_n (i := 0) rfl dX8_changed_22 (sd_getR clsX8 (f := 0) (by decide) (fun _ _ _ => rfl) mw_431 dX8_changed_23 (sd_getI clsX7 (f := 1) (by decide) (fun _ _ _ => rfl) mw_143 dX8_changed_26 (sd_icmp_ge (tgt := 52) (by decide) dX8_changed_29 (sd_iload_n (i := 1) rfl dX8_changed_52 (sd_iret (ty := .int) rfl (by decide) (by decide) dX8_changed_53)) (sd_aload_n (i := 0) rfl dX8_changed_32 (sd_iload_n (i := 2) rfl dX8_changed_33 (sd_callV (Y' := YX8_isChanged) (mc' := 0) (ms' := 0) (n := 1) clsX8.1 mw_910 mw_912 mw_32 mw_100 mw_913 rfl (okmX8_isChanged) (by decide) (Nat.le_refl _) (by decide) (by decide) dX8_changed_34 (sd_if_eq (tgt := 46) (by decide) dX8_changed_37 (sd_iinc (i := 2) (v := 1) (by decide) (by decide) dX8_changed_46 (sd_goto (tgt := 21) (by decide) dX8_changed_49 (Sd.go))) (sd_iload_n (i := 1) rfl dX8_changed_40 (sd_iconst (v := 1) (by decide) dX8_changed_41 (sd_iload_n (i := 2) rfl dX8_changed_42 (sd_ishl dX8_changed_43 (sd_ior dX8_changed_44 (sd_istore_n (i := 1) rfl (by decide) dX8_changed_45 (sd_iinc (i := 2) (v := 1) (by decide) (by decide) dX8_changed_46 (sd_goto (tgt := 21) (by decide) dX8_changed_49 (Sd.go))))))))))))))))) : Sd l E YX8_changed (d + 1) 0 0 Q 0 0 21 (bX8_changed_21 l E d Q)) ls st h hB
theorem eX8_changed {l : Launch} {E : Ev} {d : Nat} {Q : Option Value → Hp → Prop} {h : Hp} {a0 : Nat} (hk : Go l E YX8_changed d 0 0 Q 0 0 0 [some (.ref a0), none, none] [] h) : GoM l E YX8_changed d 0 0 [.ref a0] h Q := GoM.of (by decide +kernel) rfl (by simp [entA, YX8_changed]) hk
theorem dX8_chain_0 : decode cX8_chain 0 = .ok (.aload_n 0, 1) := by decide +kernel
theorem dX8_chain_1 : decode cX8_chain 1 = .ok (.iconst 2, 1) := by decide +kernel
theorem dX8_chain_2 : decode cX8_chain 2 = .ok (.invokevirtual 181, 3) := by decide +kernel
theorem dX8_chain_5 : decode cX8_chain 5 = .ok (.aload_n 0, 1) := by decide +kernel
theorem dX8_chain_6 : decode cX8_chain 6 = .ok (.getfield 10, 3) := by decide +kernel
theorem dX8_chain_9 : decode cX8_chain 9 = .ok (.iload_n 1, 1) := by decide +kernel
theorem dX8_chain_10 : decode cX8_chain 10 = .ok (.invokevirtual 115, 3) := by decide +kernel
theorem dX8_chain_13 : decode cX8_chain 13 = .ok (.ifCond .eq 13, 3) := by decide +kernel
theorem dX8_chain_16 : decode cX8_chain 16 = .ok (.aload_n 0, 1) := by decide +kernel
theorem dX8_chain_17 : decode cX8_chain 17 = .ok (.getfield 184, 3) := by decide +kernel
theorem dX8_chain_20 : decode cX8_chain 20 = .ok (.invokestatic 202, 3) := by decide +kernel
theorem dX8_chain_23 : decode cX8_chain 23 = .ok (.ifCond .eq 5, 3) := by decide +kernel
theorem dX8_chain_26 : decode cX8_chain 26 = .ok (.iconst (-1), 1) := by decide +kernel
theorem dX8_chain_27 : decode cX8_chain 27 = .ok (.ireturn, 1) := by decide +kernel
theorem dX8_chain_28 : decode cX8_chain 28 = .ok (.aload_n 0, 1) := by decide +kernel
theorem dX8_chain_29 : decode cX8_chain 29 = .ok (.iload_n 1, 1) := by decide +kernel
theorem dX8_chain_30 : decode cX8_chain 30 = .ok (.invokevirtual 209, 3) := by decide +kernel
theorem dX8_chain_33 : decode cX8_chain 33 = .ok (.istore_n 3, 1) := by decide +kernel
theorem dX8_chain_34 : decode cX8_chain 34 = .ok (.iload_n 2, 1) := by decide +kernel
theorem dX8_chain_35 : decode cX8_chain 35 = .ok (.iconst (-1), 1) := by decide +kernel
theorem dX8_chain_36 : decode cX8_chain 36 = .ok (.if_icmp .ne 5, 3) := by decide +kernel
theorem dX8_chain_39 : decode cX8_chain 39 = .ok (.iload_n 3, 1) := by decide +kernel
theorem dX8_chain_40 : decode cX8_chain 40 = .ok (.ireturn, 1) := by decide +kernel
theorem dX8_chain_41 : decode cX8_chain 41 = .ok (.iload_n 2, 1) := by decide +kernel
theorem dX8_chain_42 : decode cX8_chain 42 = .ok (.ifCond .lt 17, 3) := by decide +kernel
theorem dX8_chain_45 : decode cX8_chain 45 = .ok (.iload_n 2, 1) := by decide +kernel
theorem dX8_chain_46 : decode cX8_chain 46 = .ok (.iload_n 3, 1) := by decide +kernel
theorem dX8_chain_47 : decode cX8_chain 47 = .ok (.if_icmp .ge 12, 3) := by decide +kernel
theorem dX8_chain_50 : decode cX8_chain 50 = .ok (.aload_n 0, 1) := by decide +kernel
theorem dX8_chain_51 : decode cX8_chain 51 = .ok (.getfield 82, 3) := by decide +kernel
theorem dX8_chain_54 : decode cX8_chain 54 = .ok (.iload_n 2, 1) := by decide +kernel
theorem dX8_chain_55 : decode cX8_chain 55 = .ok (.iaload, 1) := by decide +kernel
theorem dX8_chain_56 : decode cX8_chain 56 = .ok (.goto 4, 3) := by decide +kernel
theorem dX8_chain_59 : decode cX8_chain 59 = .ok (.iconst (-1), 1) := by decide +kernel
theorem dX8_chain_60 : decode cX8_chain 60 = .ok (.ireturn, 1) := by decide +kernel
def bX8_chain_0 (l : Launch) (E : Ev) (d : Nat) (Q : Option Value → Hp → Prop) : Kt := k_aload 0 (k_push (.int 2) (k_callV l E 8 19 YX8_renew d 0 0 1 (k_aload 0 (k_getR 8 19 0 (k_iload 1 (k_callV l E 7 15 YX7_hasPart d 0 0 1 (k_if_eq (k_push (.int (-1)) (k_iret .int Q)) (k_aload 0 (k_getJ 8 19 18 (k_callS l E YX3_isNone d 0 0 1 (k_if_eq (k_aload 0 (k_iload 1 (k_callV l E 8 19 YX8_linkFrom d 0 0 1 (k_istore 3 (k_iload 2 (k_push (.int (-1)) (k_icmp_ne (k_iload 2 (k_if_lt (k_push (.int (-1)) (k_iret .int Q)) (k_iload 2 (k_iload 3 (k_icmp_ge (k_push (.int (-1)) (k_iret .int Q)) (k_aload 0 (k_getR 8 19 17 (k_iload 2 (k_iaload (k_iret .int Q)))))))))) (k_iload 3 (k_iret .int Q))))))))) (k_push (.int (-1)) (k_iret .int Q)))))))))))))
set_option maxRecDepth 100000 in
set_option maxHeartbeats 4000000 in
theorem gX8_chain_0 {l : Launch} {E : Ev} {d : Nat} {Q : Option Value → Hp → Prop} {ls : Lv} {st : List Value} {h : Hp} (hB : bX8_chain_0 l E d Q ls st h) : Go l E YX8_chain (d + 1) 0 0 Q 0 0 0 ls st h :=
  (sd_aload_n (i := 0) rfl dX8_chain_0 (sd_iconst (v := 2) (by decide) dX8_chain_1 (sd_callV (Y' := YX8_renew) (mc' := 0) (ms' := 0) (n := 1) clsX8.1 mw_772 mw_774 mw_15 mw_100 mw_775 rfl (okmX8_renew) (by decide) (Nat.le_refl _) (by decide) (by decide) dX8_chain_2 (sd_aload_n (i := 0) rfl dX8_chain_5 (sd_getR clsX8 (f := 0) (by decide) (fun _ _ _ => rfl) mw_431 dX8_chain_6 (sd_iload_n (i := 1) rfl dX8_chain_9 (sd_callV (Y' := YX7_hasPart) (mc' := 0) (ms' := 0) (n := 1) clsX7.1 mw_529 mw_530 mw_531 mw_101 mw_532 rfl (okmX7_hasPart) (by decide) (Nat.le_refl _) (by decide) (by decide) dX8_chain_10 (sd_if_eq (tgt := 26) (by decide) dX8_chain_13 (sd_iconst (v := (-1)) (by decide) dX8_chain_26 (sd_iret (ty := .int) rfl (by decide) (by decide) dX8_chain_27)) (sd_aload_n (i := 0) rfl dX8_chain_16 (sd_getJ clsX8 (f := 18) (by decide) (fun _ _ _ => rfl) mw_449 dX8_chain_17 (sd_callS (Y' := YX3_isNone) (mc' := 0) (ms' := 0) (n := 1) mw_909 mw_896 mw_104 mw_897 (okmX3_isNone) (by decide) (Nat.le_refl _) (by decide) (by decide) dX8_chain_20 (sd_if_eq (tgt := 28) (by decide) dX8_chain_23 (sd_aload_n (i := 0) rfl dX8_chain_28 (sd_iload_n (i := 1) rfl dX8_chain_29 (sd_callV (Y' := YX8_linkFrom) (mc' := 0) (ms' := 0) (n := 1) clsX8.1 mw_918 mw_920 mw_33 mw_100 mw_921 rfl (okmX8_linkFrom) (by decide) (Nat.le_refl _) (by decide) (by decide) dX8_chain_30 (sd_istore_n (i := 3) rfl (by decide) dX8_chain_33 (sd_iload_n (i := 2) rfl dX8_chain_34 (sd_iconst (v := (-1)) (by decide) dX8_chain_35 (sd_icmp_ne (tgt := 41) (by decide) dX8_chain_36 (sd_iload_n (i := 2) rfl dX8_chain_41 (sd_if_lt (tgt := 59) (by decide) dX8_chain_42 (sd_iconst (v := (-1)) (by decide) dX8_chain_59 (sd_iret (ty := .int) rfl (by decide) (by decide) dX8_chain_60)) (sd_iload_n (i := 2) rfl dX8_chain_45 (sd_iload_n (i := 3) rfl dX8_chain_46 (sd_icmp_ge (tgt := 59) (by decide) dX8_chain_47 (sd_iconst (v := (-1)) (by decide) dX8_chain_59 (sd_iret (ty := .int) rfl (by decide) (by decide) dX8_chain_60)) (sd_aload_n (i := 0) rfl dX8_chain_50 (sd_getR clsX8 (f := 17) (by decide) (fun _ _ _ => rfl) mw_448 dX8_chain_51 (sd_iload_n (i := 2) rfl dX8_chain_54 (sd_iaload dX8_chain_55 (sd_goto (tgt := 60) (by decide) dX8_chain_56 (sd_iret (ty := .int) rfl (by decide) (by decide) dX8_chain_60))))))))))) (sd_iload_n (i := 3) rfl dX8_chain_39 (sd_iret (ty := .int) rfl (by decide) (by decide) dX8_chain_40))))))))) (sd_iconst (v := (-1)) (by decide) dX8_chain_26 (sd_iret (ty := .int) rfl (by decide) (by decide) dX8_chain_27))))))))))))) : Sd l E YX8_chain (d + 1) 0 0 Q 0 0 0 (bX8_chain_0 l E d Q)) ls st h hB
theorem eX8_chain {l : Launch} {E : Ev} {d : Nat} {Q : Option Value → Hp → Prop} {h : Hp} {a0 : Nat} {x1 : Int32} {x2 : Int32} (hk : Go l E YX8_chain d 0 0 Q 0 0 0 [some (.ref a0), some (.int x1), some (.int x2), none] [] h) : GoM l E YX8_chain d 0 0 [.ref a0, .int x1, .int x2] h Q := GoM.of (by decide +kernel) rfl (by simp [entA, YX8_chain]) hk
theorem dX8_nth_0 : decode cX8_nth 0 = .ok (.iload_n 1, 1) := by decide +kernel
theorem dX8_nth_1 : decode cX8_nth 1 = .ok (.ifCond .lt 14, 3) := by decide +kernel
theorem dX8_nth_4 : decode cX8_nth 4 = .ok (.aload_n 0, 1) := by decide +kernel
theorem dX8_nth_5 : decode cX8_nth 5 = .ok (.getfield 10, 3) := by decide +kernel
theorem dX8_nth_8 : decode cX8_nth 8 = .ok (.iload_n 2, 1) := by decide +kernel
theorem dX8_nth_9 : decode cX8_nth 9 = .ok (.invokevirtual 115, 3) := by decide +kernel
theorem dX8_nth_12 : decode cX8_nth 12 = .ok (.ifCond .ne 5, 3) := by decide +kernel
theorem dX8_nth_15 : decode cX8_nth 15 = .ok (.iconst (-1), 1) := by decide +kernel
theorem dX8_nth_16 : decode cX8_nth 16 = .ok (.ireturn, 1) := by decide +kernel
theorem dX8_nth_17 : decode cX8_nth 17 = .ok (.aload_n 0, 1) := by decide +kernel
theorem dX8_nth_18 : decode cX8_nth 18 = .ok (.getfield 212, 3) := by decide +kernel
theorem dX8_nth_21 : decode cX8_nth 21 = .ok (.bipush 16, 2) := by decide +kernel
theorem dX8_nth_23 : decode cX8_nth 23 = .ok (.iand, 1) := by decide +kernel
theorem dX8_nth_24 : decode cX8_nth 24 = .ok (.ifCond .eq 14, 3) := by decide +kernel
theorem dX8_nth_27 : decode cX8_nth 27 = .ok (.aload_n 0, 1) := by decide +kernel
theorem dX8_nth_28 : decode cX8_nth 28 = .ok (.getfield 57, 3) := by decide +kernel
theorem dX8_nth_31 : decode cX8_nth 31 = .ok (.getfield 215, 3) := by decide +kernel
theorem dX8_nth_34 : decode cX8_nth 34 = .ok (.iload_n 1, 1) := by decide +kernel
theorem dX8_nth_35 : decode cX8_nth 35 = .ok (.if_icmp .eq 38, 3) := by decide +kernel
theorem dX8_nth_38 : decode cX8_nth 38 = .ok (.aload_n 0, 1) := by decide +kernel
theorem dX8_nth_39 : decode cX8_nth 39 = .ok (.iconst 1, 1) := by decide +kernel
theorem dX8_nth_40 : decode cX8_nth 40 = .ok (.invokevirtual 181, 3) := by decide +kernel
theorem dX8_nth_43 : decode cX8_nth 43 = .ok (.aload_n 0, 1) := by decide +kernel
theorem dX8_nth_44 : decode cX8_nth 44 = .ok (.getfield 57, 3) := by decide +kernel
theorem dX8_nth_47 : decode cX8_nth 47 = .ok (.aload_n 0, 1) := by decide +kernel
theorem dX8_nth_48 : decode cX8_nth 48 = .ok (.getfield 45, 3) := by decide +kernel
theorem dX8_nth_51 : decode cX8_nth 51 = .ok (.aload_n 0, 1) := by decide +kernel
theorem dX8_nth_52 : decode cX8_nth 52 = .ok (.getfield 10, 3) := by decide +kernel
theorem dX8_nth_55 : decode cX8_nth 55 = .ok (.getfield 148, 3) := by decide +kernel
theorem dX8_nth_58 : decode cX8_nth 58 = .ok (.iload_n 1, 1) := by decide +kernel
theorem dX8_nth_59 : decode cX8_nth 59 = .ok (.invokevirtual 218, 3) := by decide +kernel
theorem dX8_nth_62 : decode cX8_nth 62 = .ok (.aload_n 0, 1) := by decide +kernel
theorem dX8_nth_63 : decode cX8_nth 63 = .ok (.dup, 1) := by decide +kernel
theorem dX8_nth_64 : decode cX8_nth 64 = .ok (.getfield 212, 3) := by decide +kernel
theorem dX8_nth_67 : decode cX8_nth 67 = .ok (.bipush 16, 2) := by decide +kernel
theorem dX8_nth_69 : decode cX8_nth 69 = .ok (.ior, 1) := by decide +kernel
theorem dX8_nth_70 : decode cX8_nth 70 = .ok (.putfield 212, 3) := by decide +kernel
theorem dX8_nth_73 : decode cX8_nth 73 = .ok (.aload_n 0, 1) := by decide +kernel
theorem dX8_nth_74 : decode cX8_nth 74 = .ok (.getfield 57, 3) := by decide +kernel
theorem dX8_nth_77 : decode cX8_nth 77 = .ok (.getfield 222, 3) := by decide +kernel
theorem dX8_nth_80 : decode cX8_nth 80 = .ok (.iload_n 2, 1) := by decide +kernel
theorem dX8_nth_81 : decode cX8_nth 81 = .ok (.iaload, 1) := by decide +kernel
theorem dX8_nth_82 : decode cX8_nth 82 = .ok (.ireturn, 1) := by decide +kernel
def bX8_nth_0 (l : Launch) (E : Ev) (d : Nat) (Q : Option Value → Hp → Prop) : Kt := k_iload 1 (k_if_lt (k_push (.int (-1)) (k_iret .int Q)) (k_aload 0 (k_getR 8 19 0 (k_iload 2 (k_callV l E 7 15 YX7_hasPart d 0 0 1 (k_if_ne (k_aload 0 (k_getI 8 19 10 (k_push (.int 16) (k_iand (k_if_eq (Go l E YX8_nth (d + 1) 0 0 Q 0 0 38) (k_aload 0 (k_getR 8 19 13 (k_getI 3 10 9 (k_iload 1 (k_icmp_eq (k_aload 0 (k_getR 8 19 13 (k_getR 3 10 8 (k_iload 2 (k_iaload (k_iret .int Q)))))) (Go l E YX8_nth (d + 1) 0 0 Q 0 0 38))))))))))) (k_push (.int (-1)) (k_iret .int Q))))))))
set_option maxRecDepth 100000 in
set_option maxHeartbeats 4000000 in
theorem gX8_nth_0 {l : Launch} {E : Ev} {d : Nat} {Q : Option Value → Hp → Prop} {ls : Lv} {st : List Value} {h : Hp} (hB : bX8_nth_0 l E d Q ls st h) : Go l E YX8_nth (d + 1) 0 0 Q 0 0 0 ls st h :=
  (sd_iload_n (i := 1) rfl dX8_nth_0 (sd_if_lt (tgt := 15) (by decide) dX8_nth_1 (sd_iconst (v := (-1)) (by decide) dX8_nth_15 (sd_iret (ty := .int) rfl (by decide) (by decide) dX8_nth_16)) (sd_aload_n (i := 0) rfl dX8_nth_4 (sd_getR clsX8 (f := 0) (by decide) (fun _ _ _ => rfl) mw_431 dX8_nth_5 (sd_iload_n (i := 2) rfl dX8_nth_8 (sd_callV (Y' := YX7_hasPart) (mc' := 0) (ms' := 0) (n := 1) clsX7.1 mw_529 mw_530 mw_531 mw_101 mw_532 rfl (okmX7_hasPart) (by decide) (Nat.le_refl _) (by decide) (by decide) dX8_nth_9 (sd_if_ne (tgt := 17) (by decide) dX8_nth_12 (sd_aload_n (i := 0) rfl dX8_nth_17 (sd_getI clsX8 (f := 10) (by decide) (fun _ _ _ => rfl) mw_441 dX8_nth_18 (sd_bipush (v := 16) (by decide) dX8_nth_21 (sd_iand dX8_nth_23 (sd_if_eq (tgt := 38) (by decide) dX8_nth_24 (Sd.go) (sd_aload_n (i := 0) rfl dX8_nth_27 (sd_getR clsX8 (f := 13) (by decide) (fun _ _ _ => rfl) mw_444 dX8_nth_28 (sd_getI clsX3 (f := 9) (by decide) (fun _ _ _ => rfl) mw_321 dX8_nth_31 (sd_iload_n (i := 1) rfl dX8_nth_34 (sd_icmp_eq (tgt := 73) (by decide) dX8_nth_35 (sd_aload_n (i := 0) rfl dX8_nth_73 (sd_getR clsX8 (f := 13) (by decide) (fun _ _ _ => rfl) mw_444 dX8_nth_74 (sd_getR clsX3 (f := 8) (by decide) (fun _ _ _ => rfl) mw_319 dX8_nth_77 (sd_iload_n (i := 2) rfl dX8_nth_80 (sd_iaload dX8_nth_81 (sd_iret (ty := .int) rfl (by decide) (by decide) dX8_nth_82)))))) (Sd.go))))))))))) (sd_iconst (v := (-1)) (by decide) dX8_nth_15 (sd_iret (ty := .int) rfl (by decide) (by decide) dX8_nth_16)))))))) : Sd l E YX8_nth (d + 1) 0 0 Q 0 0 0 (bX8_nth_0 l E d Q)) ls st h hB
def bX8_nth_38 (l : Launch) (E : Ev) (d : Nat) (Q : Option Value → Hp → Prop) : Kt := k_aload 0 (k_push (.int 1) (k_callV l E 8 19 YX8_renew d 0 0 1 (k_aload 0 (k_getR 8 19 13 (k_aload 0 (k_getR 8 19 11 (k_aload 0 (k_getR 8 19 0 (k_getI 7 15 6 (k_iload 1 (k_callV l E 3 10 YX3_pick d 0 0 3 (k_aload 0 (k_dup (k_getI 8 19 10 (k_push (.int 16) (k_ior (k_putI 8 19 10 (k_aload 0 (k_getR 8 19 13 (k_getR 3 10 8 (k_iload 2 (k_iaload (k_iret .int Q)))))))))))))))))))))))
set_option maxRecDepth 100000 in
set_option maxHeartbeats 4000000 in
theorem gX8_nth_38 {l : Launch} {E : Ev} {d : Nat} {Q : Option Value → Hp → Prop} {ls : Lv} {st : List Value} {h : Hp} (hB : bX8_nth_38 l E d Q ls st h) : Go l E YX8_nth (d + 1) 0 0 Q 0 0 38 ls st h :=
  (sd_aload_n (i := 0) rfl dX8_nth_38 (sd_iconst (v := 1) (by decide) dX8_nth_39 (sd_callV (Y' := YX8_renew) (mc' := 0) (ms' := 0) (n := 1) clsX8.1 mw_772 mw_774 mw_15 mw_100 mw_775 rfl (okmX8_renew) (by decide) (Nat.le_refl _) (by decide) (by decide) dX8_nth_40 (sd_aload_n (i := 0) rfl dX8_nth_43 (sd_getR clsX8 (f := 13) (by decide) (fun _ _ _ => rfl) mw_444 dX8_nth_44 (sd_aload_n (i := 0) rfl dX8_nth_47 (sd_getR clsX8 (f := 11) (by decide) (fun _ _ _ => rfl) mw_442 dX8_nth_48 (sd_aload_n (i := 0) rfl dX8_nth_51 (sd_getR clsX8 (f := 0) (by decide) (fun _ _ _ => rfl) mw_431 dX8_nth_52 (sd_getI clsX7 (f := 6) (by decide) (fun _ _ _ => rfl) mw_161 dX8_nth_55 (sd_iload_n (i := 1) rfl dX8_nth_58 (sd_callV (Y' := YX3_pick) (mc' := 0) (ms' := 0) (n := 3) clsX3.1 mw_930 mw_931 mw_932 mw_104 mw_933 rfl (okmX3_pick) (by decide) (Nat.le_refl _) (by decide) (by decide) dX8_nth_59 (sd_aload_n (i := 0) rfl dX8_nth_62 (sd_dup dX8_nth_63 (sd_getI clsX8 (f := 10) (by decide) (fun _ _ _ => rfl) mw_441 dX8_nth_64 (sd_bipush (v := 16) (by decide) dX8_nth_67 (sd_ior dX8_nth_69 (sd_putI clsX8 (f := 10) (by decide) (fun _ _ _ => rfl) rfl (Or.inl rfl) mw_441 dX8_nth_70 (sd_aload_n (i := 0) rfl dX8_nth_73 (sd_getR clsX8 (f := 13) (by decide) (fun _ _ _ => rfl) mw_444 dX8_nth_74 (sd_getR clsX3 (f := 8) (by decide) (fun _ _ _ => rfl) mw_319 dX8_nth_77 (sd_iload_n (i := 2) rfl dX8_nth_80 (sd_iaload dX8_nth_81 (sd_iret (ty := .int) rfl (by decide) (by decide) dX8_nth_82))))))))))))))))))))))) : Sd l E YX8_nth (d + 1) 0 0 Q 0 0 38 (bX8_nth_38 l E d Q)) ls st h hB
theorem eX8_nth {l : Launch} {E : Ev} {d : Nat} {Q : Option Value → Hp → Prop} {h : Hp} {a0 : Nat} {x1 : Int32} {x2 : Int32} (hk : Go l E YX8_nth d 0 0 Q 0 0 0 [some (.ref a0), some (.int x1), some (.int x2)] [] h) : GoM l E YX8_nth d 0 0 [.ref a0, .int x1, .int x2] h Q := GoM.of (by decide +kernel) rfl (by simp [entA, YX8_nth]) hk
theorem dX8_gives_0 : decode cX8_gives 0 = .ok (.aload_n 0, 1) := by decide +kernel
theorem dX8_gives_1 : decode cX8_gives 1 = .ok (.getfield 10, 3) := by decide +kernel
theorem dX8_gives_4 : decode cX8_gives 4 = .ok (.iload_n 1, 1) := by decide +kernel
theorem dX8_gives_5 : decode cX8_gives 5 = .ok (.invokevirtual 111, 3) := by decide +kernel
theorem dX8_gives_8 : decode cX8_gives 8 = .ok (.ifCond .ne 10, 3) := by decide +kernel
theorem dX8_gives_11 : decode cX8_gives 11 = .ok (.aload_n 0, 1) := by decide +kernel
theorem dX8_gives_12 : decode cX8_gives 12 = .ok (.bipush (-2), 2) := by decide +kernel
theorem dX8_gives_14 : decode cX8_gives 14 = .ok (.invokevirtual 89, 3) := by decide +kernel
theorem dX8_gives_17 : decode cX8_gives 17 = .ok (.ireturn, 1) := by decide +kernel
theorem dX8_gives_18 : decode cX8_gives 18 = .ok (.aload_n 0, 1) := by decide +kernel
theorem dX8_gives_19 : decode cX8_gives 19 = .ok (.getfield 10, 3) := by decide +kernel
theorem dX8_gives_22 : decode cX8_gives 22 = .ok (.getfield 225, 3) := by decide +kernel
theorem dX8_gives_25 : decode cX8_gives 25 = .ok (.aload_n 0, 1) := by decide +kernel
theorem dX8_gives_26 : decode cX8_gives 26 = .ok (.getfield 10, 3) := by decide +kernel
theorem dX8_gives_29 : decode cX8_gives 29 = .ok (.getfield 105, 3) := by decide +kernel
theorem dX8_gives_32 : decode cX8_gives 32 = .ok (.if_icmp .lt 10, 3) := by decide +kernel
theorem dX8_gives_35 : decode cX8_gives 35 = .ok (.aload_n 0, 1) := by decide +kernel
theorem dX8_gives_36 : decode cX8_gives 36 = .ok (.bipush (-3), 2) := by decide +kernel
theorem dX8_gives_38 : decode cX8_gives 38 = .ok (.invokevirtual 89, 3) := by decide +kernel
theorem dX8_gives_41 : decode cX8_gives 41 = .ok (.ireturn, 1) := by decide +kernel
theorem dX8_gives_42 : decode cX8_gives 42 = .ok (.aload_n 0, 1) := by decide +kernel
theorem dX8_gives_43 : decode cX8_gives 43 = .ok (.getfield 10, 3) := by decide +kernel
theorem dX8_gives_46 : decode cX8_gives 46 = .ok (.getfield 228, 3) := by decide +kernel
theorem dX8_gives_49 : decode cX8_gives 49 = .ok (.aload_n 0, 1) := by decide +kernel
theorem dX8_gives_50 : decode cX8_gives 50 = .ok (.getfield 10, 3) := by decide +kernel
theorem dX8_gives_53 : decode cX8_gives 53 = .ok (.getfield 225, 3) := by decide +kernel
theorem dX8_gives_56 : decode cX8_gives 56 = .ok (.iload_n 1, 1) := by decide +kernel
theorem dX8_gives_57 : decode cX8_gives 57 = .ok (.iastore, 1) := by decide +kernel
theorem dX8_gives_58 : decode cX8_gives 58 = .ok (.aload_n 0, 1) := by decide +kernel
theorem dX8_gives_59 : decode cX8_gives 59 = .ok (.getfield 10, 3) := by decide +kernel
theorem dX8_gives_62 : decode cX8_gives 62 = .ok (.dup, 1) := by decide +kernel
theorem dX8_gives_63 : decode cX8_gives 63 = .ok (.getfield 225, 3) := by decide +kernel
theorem dX8_gives_66 : decode cX8_gives 66 = .ok (.iconst 1, 1) := by decide +kernel
theorem dX8_gives_67 : decode cX8_gives 67 = .ok (.iadd, 1) := by decide +kernel
theorem dX8_gives_68 : decode cX8_gives 68 = .ok (.putfield 225, 3) := by decide +kernel
theorem dX8_gives_71 : decode cX8_gives 71 = .ok (.aload_n 0, 1) := by decide +kernel
theorem dX8_gives_72 : decode cX8_gives 72 = .ok (.aload_n 0, 1) := by decide +kernel
theorem dX8_gives_73 : decode cX8_gives 73 = .ok (.getfield 10, 3) := by decide +kernel
theorem dX8_gives_76 : decode cX8_gives 76 = .ok (.getfield 225, 3) := by decide +kernel
theorem dX8_gives_79 : decode cX8_gives 79 = .ok (.invokevirtual 99, 3) := by decide +kernel
theorem dX8_gives_82 : decode cX8_gives 82 = .ok (.ireturn, 1) := by decide +kernel
def bX8_gives_0 (l : Launch) (E : Ev) (d : Nat) (Q : Option Value → Hp → Prop) : Kt := k_aload 0 (k_getR 8 19 0 (k_iload 1 (k_callV l E 7 15 YX7_hasActor d 0 0 1 (k_if_ne (k_aload 0 (k_getR 8 19 0 (k_getI 7 15 14 (k_aload 0 (k_getR 8 19 0 (k_getI 7 15 1 (k_icmp_lt (k_aload 0 (k_getR 8 19 0 (k_getR 7 15 13 (k_aload 0 (k_getR 8 19 0 (k_getI 7 15 14 (k_iload 1 (k_iastore (k_aload 0 (k_getR 8 19 0 (k_dup (k_getI 7 15 14 (k_push (.int 1) (k_iadd (k_putI 7 15 14 (k_aload 0 (k_aload 0 (k_getR 8 19 0 (k_getI 7 15 14 (k_callV l E 8 19 YX8_accept d 0 0 1 (k_iret .int Q))))))))))))))))))))) (k_aload 0 (k_push (.int (-3)) (k_callV l E 8 19 YX8_refuse d 0 0 1 (k_iret .int Q))))))))))) (k_aload 0 (k_push (.int (-2)) (k_callV l E 8 19 YX8_refuse d 0 0 1 (k_iret .int Q))))))))
set_option maxRecDepth 100000 in
set_option maxHeartbeats 4000000 in
theorem gX8_gives_0 {l : Launch} {E : Ev} {d : Nat} {Q : Option Value → Hp → Prop} {ls : Lv} {st : List Value} {h : Hp} (hB : bX8_gives_0 l E d Q ls st h) : Go l E YX8_gives (d + 1) 0 0 Q 0 0 0 ls st h :=
  (sd_aload_n (i := 0) rfl dX8_gives_0 (sd_getR clsX8 (f := 0) (by decide) (fun _ _ _ => rfl) mw_431 dX8_gives_1 (sd_iload_n (i := 1) rfl dX8_gives_4 (sd_callV (Y' := YX7_hasActor) (mc' := 0) (ms' := 0) (n := 1) clsX7.1 mw_521 mw_522 mw_523 mw_101 mw_524 rfl (okmX7_hasActor) (by decide) (Nat.le_refl _) (by decide) (by decide) dX8_gives_5 (sd_if_ne (tgt := 18) (by decide) dX8_gives_8 (sd_aload_n (i := 0) rfl dX8_gives_18 (sd_getR clsX8 (f := 0) (by decide) (fun _ _ _ => rfl) mw_431 dX8_gives_19 (sd_getI clsX7 (f := 14) (by decide) (fun _ _ _ => rfl) mw_182 dX8_gives_22 (sd_aload_n (i := 0) rfl dX8_gives_25 (sd_getR clsX8 (f := 0) (by decide) (fun _ _ _ => rfl) mw_431 dX8_gives_26 (sd_getI clsX7 (f := 1) (by decide) (fun _ _ _ => rfl) mw_143 dX8_gives_29 (sd_icmp_lt (tgt := 42) (by decide) dX8_gives_32 (sd_aload_n (i := 0) rfl dX8_gives_42 (sd_getR clsX8 (f := 0) (by decide) (fun _ _ _ => rfl) mw_431 dX8_gives_43 (sd_getR clsX7 (f := 13) (by decide) (fun _ _ _ => rfl) mw_180 dX8_gives_46 (sd_aload_n (i := 0) rfl dX8_gives_49 (sd_getR clsX8 (f := 0) (by decide) (fun _ _ _ => rfl) mw_431 dX8_gives_50 (sd_getI clsX7 (f := 14) (by decide) (fun _ _ _ => rfl) mw_182 dX8_gives_53 (sd_iload_n (i := 1) rfl dX8_gives_56 (sd_iastore dX8_gives_57 (sd_aload_n (i := 0) rfl dX8_gives_58 (sd_getR clsX8 (f := 0) (by decide) (fun _ _ _ => rfl) mw_431 dX8_gives_59 (sd_dup dX8_gives_62 (sd_getI clsX7 (f := 14) (by decide) (fun _ _ _ => rfl) mw_182 dX8_gives_63 (sd_iconst (v := 1) (by decide) dX8_gives_66 (sd_iadd dX8_gives_67 (sd_putI clsX7 (f := 14) (by decide) (fun _ _ _ => rfl) rfl (Or.inl rfl) mw_182 dX8_gives_68 (sd_aload_n (i := 0) rfl dX8_gives_71 (sd_aload_n (i := 0) rfl dX8_gives_72 (sd_getR clsX8 (f := 0) (by decide) (fun _ _ _ => rfl) mw_431 dX8_gives_73 (sd_getI clsX7 (f := 14) (by decide) (fun _ _ _ => rfl) mw_182 dX8_gives_76 (sd_callV (Y' := YX8_accept) (mc' := 0) (ms' := 0) (n := 1) clsX8.1 mw_504 mw_506 mw_1 mw_100 mw_507 rfl (okmX8_accept) (by decide) (Nat.le_refl _) (by decide) (by decide) dX8_gives_79 (sd_iret (ty := .int) rfl (by decide) (by decide) dX8_gives_82))))))))))))))))))))) (sd_aload_n (i := 0) rfl dX8_gives_35 (sd_bipush (v := (-3)) (by decide) dX8_gives_36 (sd_callV (Y' := YX8_refuse) (mc' := 0) (ms' := 0) (n := 1) clsX8.1 mw_500 mw_502 mw_0 mw_100 mw_503 rfl (okmX8_refuse) (by decide) (Nat.le_refl _) (by decide) (by decide) dX8_gives_38 (sd_iret (ty := .int) rfl (by decide) (by decide) dX8_gives_41))))))))))) (sd_aload_n (i := 0) rfl dX8_gives_11 (sd_bipush (v := (-2)) (by decide) dX8_gives_12 (sd_callV (Y' := YX8_refuse) (mc' := 0) (ms' := 0) (n := 1) clsX8.1 mw_500 mw_502 mw_0 mw_100 mw_503 rfl (okmX8_refuse) (by decide) (Nat.le_refl _) (by decide) (by decide) dX8_gives_14 (sd_iret (ty := .int) rfl (by decide) (by decide) dX8_gives_17)))))))) : Sd l E YX8_gives (d + 1) 0 0 Q 0 0 0 (bX8_gives_0 l E d Q)) ls st h hB
theorem eX8_gives {l : Launch} {E : Ev} {d : Nat} {Q : Option Value → Hp → Prop} {h : Hp} {a0 : Nat} {x1 : Int32} (hk : Go l E YX8_gives d 0 0 Q 0 0 0 [some (.ref a0), some (.int x1)] [] h) : GoM l E YX8_gives d 0 0 [.ref a0, .int x1] h Q := GoM.of (by decide +kernel) rfl (by simp [entA, YX8_gives]) hk
theorem dX8_clear_0 : decode cX8_clear 0 = .ok (.aload_n 0, 1) := by decide +kernel
theorem dX8_clear_1 : decode cX8_clear 1 = .ok (.getfield 10, 3) := by decide +kernel
theorem dX8_clear_4 : decode cX8_clear 4 = .ok (.getfield 225, 3) := by decide +kernel
theorem dX8_clear_7 : decode cX8_clear 7 = .ok (.istore_n 1, 1) := by decide +kernel
theorem dX8_clear_8 : decode cX8_clear 8 = .ok (.aload_n 0, 1) := by decide +kernel
theorem dX8_clear_9 : decode cX8_clear 9 = .ok (.getfield 10, 3) := by decide +kernel
theorem dX8_clear_12 : decode cX8_clear 12 = .ok (.iconst 0, 1) := by decide +kernel
theorem dX8_clear_13 : decode cX8_clear 13 = .ok (.putfield 225, 3) := by decide +kernel
theorem dX8_clear_16 : decode cX8_clear 16 = .ok (.iload_n 1, 1) := by decide +kernel
theorem dX8_clear_17 : decode cX8_clear 17 = .ok (.ireturn, 1) := by decide +kernel
def bX8_clear_0 (l : Launch) (E : Ev) (d : Nat) (Q : Option Value → Hp → Prop) : Kt := k_aload 0 (k_getR 8 19 0 (k_getI 7 15 14 (k_istore 1 (k_aload 0 (k_getR 8 19 0 (k_push (.int 0) (k_putI 7 15 14 (k_iload 1 (k_iret .int Q)))))))))
set_option maxRecDepth 100000 in
set_option maxHeartbeats 4000000 in
theorem gX8_clear_0 {l : Launch} {E : Ev} {d : Nat} {Q : Option Value → Hp → Prop} {ls : Lv} {st : List Value} {h : Hp} (hB : bX8_clear_0 l E d Q ls st h) : Go l E YX8_clear (d + 1) 0 0 Q 0 0 0 ls st h :=
  (sd_aload_n (i := 0) rfl dX8_clear_0 (sd_getR clsX8 (f := 0) (by decide) (fun _ _ _ => rfl) mw_431 dX8_clear_1 (sd_getI clsX7 (f := 14) (by decide) (fun _ _ _ => rfl) mw_182 dX8_clear_4 (sd_istore_n (i := 1) rfl (by decide) dX8_clear_7 (sd_aload_n (i := 0) rfl dX8_clear_8 (sd_getR clsX8 (f := 0) (by decide) (fun _ _ _ => rfl) mw_431 dX8_clear_9 (sd_iconst (v := 0) (by decide) dX8_clear_12 (sd_putI clsX7 (f := 14) (by decide) (fun _ _ _ => rfl) rfl (Or.inl rfl) mw_182 dX8_clear_13 (sd_iload_n (i := 1) rfl dX8_clear_16 (sd_iret (ty := .int) rfl (by decide) (by decide) dX8_clear_17))))))))) : Sd l E YX8_clear (d + 1) 0 0 Q 0 0 0 (bX8_clear_0 l E d Q)) ls st h hB
theorem eX8_clear {l : Launch} {E : Ev} {d : Nat} {Q : Option Value → Hp → Prop} {h : Hp} {a0 : Nat} (hk : Go l E YX8_clear d 0 0 Q 0 0 0 [some (.ref a0), none] [] h) : GoM l E YX8_clear d 0 0 [.ref a0] h Q := GoM.of (by decide +kernel) rfl (by simp [entA, YX8_clear]) hk
theorem dX8_judge_0 : decode cX8_judge 0 = .ok (.aload_n 0, 1) := by decide +kernel
theorem dX8_judge_1 : decode cX8_judge 1 = .ok (.iconst 1, 1) := by decide +kernel
theorem dX8_judge_2 : decode cX8_judge 2 = .ok (.invokevirtual 181, 3) := by decide +kernel
theorem dX8_judge_5 : decode cX8_judge 5 = .ok (.iload_n 1, 1) := by decide +kernel
theorem dX8_judge_6 : decode cX8_judge 6 = .ok (.lookupswitch 36 #[(0, 26), (1, 31)], 26) := by decide +kernel
theorem dX8_judge_32 : decode cX8_judge 32 = .ok (.aload_n 0, 1) := by decide +kernel
theorem dX8_judge_33 : decode cX8_judge 33 = .ok (.invokevirtual 231, 3) := by decide +kernel
theorem dX8_judge_36 : decode cX8_judge 36 = .ok (.ireturn, 1) := by decide +kernel
theorem dX8_judge_37 : decode cX8_judge 37 = .ok (.aload_n 0, 1) := by decide +kernel
theorem dX8_judge_38 : decode cX8_judge 38 = .ok (.invokevirtual 235, 3) := by decide +kernel
theorem dX8_judge_41 : decode cX8_judge 41 = .ok (.ireturn, 1) := by decide +kernel
theorem dX8_judge_42 : decode cX8_judge 42 = .ok (.iconst (-1), 1) := by decide +kernel
theorem dX8_judge_43 : decode cX8_judge 43 = .ok (.ireturn, 1) := by decide +kernel
def bX8_judge_0 (l : Launch) (E : Ev) (d : Nat) (Q : Option Value → Hp → Prop) : Kt := k_aload 0 (k_push (.int 1) (k_callV l E 8 19 YX8_renew d 0 0 1 (k_iload 1 (k_sw [(0, (k_aload 0 (k_callV l E 8 19 YX8_firstWrong d 0 0 0 (k_iret .int Q)))), (1, (k_aload 0 (k_callV l E 8 19 YX8_toldCost d 0 0 0 (k_iret .int Q))))] (k_push (.int (-1)) (k_iret .int Q))))))
set_option maxRecDepth 100000 in
set_option maxHeartbeats 4000000 in
theorem gX8_judge_0 {l : Launch} {E : Ev} {d : Nat} {Q : Option Value → Hp → Prop} {ls : Lv} {st : List Value} {h : Hp} (hB : bX8_judge_0 l E d Q ls st h) : Go l E YX8_judge (d + 1) 0 0 Q 0 0 0 ls st h :=
  (sd_aload_n (i := 0) rfl dX8_judge_0 (sd_iconst (v := 1) (by decide) dX8_judge_1 (sd_callV (Y' := YX8_renew) (mc' := 0) (ms' := 0) (n := 1) clsX8.1 mw_772 mw_774 mw_15 mw_100 mw_775 rfl (okmX8_renew) (by decide) (Nat.le_refl _) (by decide) (by decide) dX8_judge_2 (sd_iload_n (i := 1) rfl dX8_judge_5 (sd_lookup dX8_judge_6 (by decide) (dt := 42) (by decide) (sd_iconst (v := (-1)) (by decide) dX8_judge_42 (sd_iret (ty := .int) rfl (by decide) (by decide) dX8_judge_43)) rfl (lk_all (lk_cons (tgt := 32) (by decide) (by decide) (sd_aload_n (i := 0) rfl dX8_judge_32 (sd_callV (Y' := YX8_firstWrong) (mc' := 0) (ms' := 0) (n := 0) clsX8.1 mw_950 mw_952 mw_36 mw_100 mw_953 rfl (okmX8_firstWrong) (by decide) (Nat.le_refl _) (by decide) (by decide) dX8_judge_33 (sd_iret (ty := .int) rfl (by decide) (by decide) dX8_judge_36))) (lk_cons (tgt := 37) (by decide) (by decide) (sd_aload_n (i := 0) rfl dX8_judge_37 (sd_callV (Y' := YX8_toldCost) (mc' := 0) (ms' := 0) (n := 0) clsX8.1 mw_958 mw_960 mw_38 mw_100 mw_961 rfl (okmX8_toldCost) (by decide) (Nat.le_refl _) (by decide) (by decide) dX8_judge_38 (sd_iret (ty := .int) rfl (by decide) (by decide) dX8_judge_41))) (lk_nil)))))))) : Sd l E YX8_judge (d + 1) 0 0 Q 0 0 0 (bX8_judge_0 l E d Q)) ls st h hB
theorem eX8_judge {l : Launch} {E : Ev} {d : Nat} {Q : Option Value → Hp → Prop} {h : Hp} {a0 : Nat} {x1 : Int32} (hk : Go l E YX8_judge d 0 0 Q 0 0 0 [some (.ref a0), some (.int x1)] [] h) : GoM l E YX8_judge d 0 0 [.ref a0, .int x1] h Q := GoM.of (by decide +kernel) rfl (by simp [entA, YX8_judge]) hk
theorem dX8_shut_0 : decode cX8_shut 0 = .ok (.iload_n 1, 1) := by decide +kernel
theorem dX8_shut_1 : decode cX8_shut 1 = .ok (.aload_n 0, 1) := by decide +kernel
theorem dX8_shut_2 : decode cX8_shut 2 = .ok (.getfield 10, 3) := by decide +kernel
theorem dX8_shut_5 : decode cX8_shut 5 = .ok (.getfield 93, 3) := by decide +kernel
theorem dX8_shut_8 : decode cX8_shut 8 = .ok (.invokestatic 145, 3) := by decide +kernel
theorem dX8_shut_11 : decode cX8_shut 11 = .ok (.ifCond .ne 5, 3) := by decide +kernel
theorem dX8_shut_14 : decode cX8_shut 14 = .ok (.iconst (-1), 1) := by decide +kernel
theorem dX8_shut_15 : decode cX8_shut 15 = .ok (.ireturn, 1) := by decide +kernel
theorem dX8_shut_16 : decode cX8_shut 16 = .ok (.aload_n 0, 1) := by decide +kernel
theorem dX8_shut_17 : decode cX8_shut 17 = .ok (.bipush 8, 2) := by decide +kernel
theorem dX8_shut_19 : decode cX8_shut 19 = .ok (.invokevirtual 181, 3) := by decide +kernel
theorem dX8_shut_22 : decode cX8_shut 22 = .ok (.aload_n 0, 1) := by decide +kernel
theorem dX8_shut_23 : decode cX8_shut 23 = .ok (.getfield 64, 3) := by decide +kernel
theorem dX8_shut_26 : decode cX8_shut 26 = .ok (.getfield 238, 3) := by decide +kernel
theorem dX8_shut_29 : decode cX8_shut 29 = .ok (.iload_n 1, 1) := by decide +kernel
theorem dX8_shut_30 : decode cX8_shut 30 = .ok (.baload, 1) := by decide +kernel
theorem dX8_shut_31 : decode cX8_shut 31 = .ok (.ifCond .eq 7, 3) := by decide +kernel
theorem dX8_shut_34 : decode cX8_shut 34 = .ok (.iconst 1, 1) := by decide +kernel
theorem dX8_shut_35 : decode cX8_shut 35 = .ok (.goto 4, 3) := by decide +kernel
theorem dX8_shut_38 : decode cX8_shut 38 = .ok (.iconst 0, 1) := by decide +kernel
theorem dX8_shut_39 : decode cX8_shut 39 = .ok (.ireturn, 1) := by decide +kernel
def bX8_shut_0 (l : Launch) (E : Ev) (d : Nat) (Q : Option Value → Hp → Prop) : Kt := k_iload 1 (k_aload 0 (k_getR 8 19 0 (k_getI 7 15 0 (k_callS l E YX8_within d 0 0 2 (k_if_ne (k_aload 0 (k_push (.int 8) (k_callV l E 8 19 YX8_renew d 0 0 1 (k_aload 0 (k_getR 8 19 14 (k_getR 1 7 5 (k_iload 1 (k_zaload (k_if_eq (k_push (.int 0) (k_iret .int Q)) (k_push (.int 1) (k_iret .int Q))))))))))) (k_push (.int (-1)) (k_iret .int Q)))))))
set_option maxRecDepth 100000 in
set_option maxHeartbeats 4000000 in
theorem gX8_shut_0 {l : Launch} {E : Ev} {d : Nat} {Q : Option Value → Hp → Prop} {ls : Lv} {st : List Value} {h : Hp} (hB : bX8_shut_0 l E d Q ls st h) : Go l E YX8_shut (d + 1) 0 0 Q 0 0 0 ls st h :=
  (sd_iload_n (i := 1) rfl dX8_shut_0 (sd_aload_n (i := 0) rfl dX8_shut_1 (sd_getR clsX8 (f := 0) (by decide) (fun _ _ _ => rfl) mw_431 dX8_shut_2 (sd_getI clsX7 (f := 0) (by decide) (fun _ _ _ => rfl) mw_138 dX8_shut_5 (sd_callS (Y' := YX8_within) (mc' := 0) (ms' := 0) (n := 2) mw_598 mw_599 mw_100 mw_600 (okmX8_within) (by decide) (Nat.le_refl _) (by decide) (by decide) dX8_shut_8 (sd_if_ne (tgt := 16) (by decide) dX8_shut_11 (sd_aload_n (i := 0) rfl dX8_shut_16 (sd_bipush (v := 8) (by decide) dX8_shut_17 (sd_callV (Y' := YX8_renew) (mc' := 0) (ms' := 0) (n := 1) clsX8.1 mw_772 mw_774 mw_15 mw_100 mw_775 rfl (okmX8_renew) (by decide) (Nat.le_refl _) (by decide) (by decide) dX8_shut_19 (sd_aload_n (i := 0) rfl dX8_shut_22 (sd_getR clsX8 (f := 14) (by decide) (fun _ _ _ => rfl) mw_445 dX8_shut_23 (sd_getR clsX1 (f := 5) (by decide) (fun _ _ _ => rfl) mw_356 dX8_shut_26 (sd_iload_n (i := 1) rfl dX8_shut_29 (sd_zaload dX8_shut_30 (sd_if_eq (tgt := 38) (by decide) dX8_shut_31 (sd_iconst (v := 0) (by decide) dX8_shut_38 (sd_iret (ty := .int) rfl (by decide) (by decide) dX8_shut_39)) (sd_iconst (v := 1) (by decide) dX8_shut_34 (sd_goto (tgt := 39) (by decide) dX8_shut_35 (sd_iret (ty := .int) rfl (by decide) (by decide) dX8_shut_39)))))))))))) (sd_iconst (v := (-1)) (by decide) dX8_shut_14 (sd_iret (ty := .int) rfl (by decide) (by decide) dX8_shut_15))))))) : Sd l E YX8_shut (d + 1) 0 0 Q 0 0 0 (bX8_shut_0 l E d Q)) ls st h hB
theorem eX8_shut {l : Launch} {E : Ev} {d : Nat} {Q : Option Value → Hp → Prop} {h : Hp} {a0 : Nat} {x1 : Int32} (hk : Go l E YX8_shut d 0 0 Q 0 0 0 [some (.ref a0), some (.int x1)] [] h) : GoM l E YX8_shut d 0 0 [.ref a0, .int x1] h Q := GoM.of (by decide +kernel) rfl (by simp [entA, YX8_shut]) hk
theorem dX8_closing_0 : decode cX8_closing 0 = .ok (.aload_n 0, 1) := by decide +kernel
theorem dX8_closing_1 : decode cX8_closing 1 = .ok (.bipush 8, 2) := by decide +kernel
theorem dX8_closing_3 : decode cX8_closing 3 = .ok (.invokevirtual 181, 3) := by decide +kernel
theorem dX8_closing_6 : decode cX8_closing 6 = .ok (.aload_n 0, 1) := by decide +kernel
theorem dX8_closing_7 : decode cX8_closing 7 = .ok (.getfield 64, 3) := by decide +kernel
theorem dX8_closing_10 : decode cX8_closing 10 = .ok (.iload_n 1, 1) := by decide +kernel
theorem dX8_closing_11 : decode cX8_closing 11 = .ok (.invokevirtual 241, 3) := by decide +kernel
theorem dX8_closing_14 : decode cX8_closing 14 = .ok (.ireturn, 1) := by decide +kernel
def bX8_closing_0 (l : Launch) (E : Ev) (d : Nat) (Q : Option Value → Hp → Prop) : Kt := k_aload 0 (k_push (.int 8) (k_callV l E 8 19 YX8_renew d 0 0 1 (k_aload 0 (k_getR 8 19 14 (k_iload 1 (k_callV l E 1 7 YX1_closingSet d 0 0 1 (k_iret .int Q)))))))
set_option maxRecDepth 100000 in
set_option maxHeartbeats 4000000 in
theorem gX8_closing_0 {l : Launch} {E : Ev} {d : Nat} {Q : Option Value → Hp → Prop} {ls : Lv} {st : List Value} {h : Hp} (hB : bX8_closing_0 l E d Q ls st h) : Go l E YX8_closing (d + 1) 0 0 Q 0 0 0 ls st h :=
  (sd_aload_n (i := 0) rfl dX8_closing_0 (sd_bipush (v := 8) (by decide) dX8_closing_1 (sd_callV (Y' := YX8_renew) (mc' := 0) (ms' := 0) (n := 1) clsX8.1 mw_772 mw_774 mw_15 mw_100 mw_775 rfl (okmX8_renew) (by decide) (Nat.le_refl _) (by decide) (by decide) dX8_closing_3 (sd_aload_n (i := 0) rfl dX8_closing_6 (sd_getR clsX8 (f := 14) (by decide) (fun _ _ _ => rfl) mw_445 dX8_closing_7 (sd_iload_n (i := 1) rfl dX8_closing_10 (sd_callV (Y' := YX1_closingSet) (mc' := 0) (ms' := 0) (n := 1) clsX1.1 mw_970 mw_971 mw_972 mw_105 mw_973 rfl (okmX1_closingSet) (by decide) (Nat.le_refl _) (by decide) (by decide) dX8_closing_11 (sd_iret (ty := .int) rfl (by decide) (by decide) dX8_closing_14))))))) : Sd l E YX8_closing (d + 1) 0 0 Q 0 0 0 (bX8_closing_0 l E d Q)) ls st h hB
theorem eX8_closing {l : Launch} {E : Ev} {d : Nat} {Q : Option Value → Hp → Prop} {h : Hp} {a0 : Nat} {x1 : Int32} (hk : Go l E YX8_closing d 0 0 Q 0 0 0 [some (.ref a0), some (.int x1)] [] h) : GoM l E YX8_closing d 0 0 [.ref a0, .int x1] h Q := GoM.of (by decide +kernel) rfl (by simp [entA, YX8_closing]) hk
theorem dX8_safe_0 : decode cX8_safe 0 = .ok (.iload_n 1, 1) := by decide +kernel
theorem dX8_safe_1 : decode cX8_safe 1 = .ok (.ifCond .lt 9, 3) := by decide +kernel
theorem dX8_safe_4 : decode cX8_safe 4 = .ok (.iload_n 1, 1) := by decide +kernel
theorem dX8_safe_5 : decode cX8_safe 5 = .ok (.bipush 8, 2) := by decide +kernel
theorem dX8_safe_7 : decode cX8_safe 7 = .ok (.if_icmp .le 5, 3) := by decide +kernel
theorem dX8_safe_10 : decode cX8_safe 10 = .ok (.iconst (-1), 1) := by decide +kernel
theorem dX8_safe_11 : decode cX8_safe 11 = .ok (.ireturn, 1) := by decide +kernel
theorem dX8_safe_12 : decode cX8_safe 12 = .ok (.aload_n 0, 1) := by decide +kernel
theorem dX8_safe_13 : decode cX8_safe 13 = .ok (.bipush 8, 2) := by decide +kernel
theorem dX8_safe_15 : decode cX8_safe 15 = .ok (.invokevirtual 181, 3) := by decide +kernel
theorem dX8_safe_18 : decode cX8_safe 18 = .ok (.aload_n 0, 1) := by decide +kernel
theorem dX8_safe_19 : decode cX8_safe 19 = .ok (.getfield 64, 3) := by decide +kernel
theorem dX8_safe_22 : decode cX8_safe 22 = .ok (.iload_n 1, 1) := by decide +kernel
theorem dX8_safe_23 : decode cX8_safe 23 = .ok (.invokevirtual 244, 3) := by decide +kernel
theorem dX8_safe_26 : decode cX8_safe 26 = .ok (.iconst (-1), 1) := by decide +kernel
theorem dX8_safe_27 : decode cX8_safe 27 = .ok (.if_icmp .ne 7, 3) := by decide +kernel
theorem dX8_safe_30 : decode cX8_safe 30 = .ok (.iconst 1, 1) := by decide +kernel
theorem dX8_safe_31 : decode cX8_safe 31 = .ok (.goto 4, 3) := by decide +kernel
theorem dX8_safe_34 : decode cX8_safe 34 = .ok (.iconst 0, 1) := by decide +kernel
theorem dX8_safe_35 : decode cX8_safe 35 = .ok (.ireturn, 1) := by decide +kernel
def bX8_safe_0 (l : Launch) (E : Ev) (d : Nat) (Q : Option Value → Hp → Prop) : Kt := k_iload 1 (k_if_lt (k_push (.int (-1)) (k_iret .int Q)) (k_iload 1 (k_push (.int 8) (k_icmp_le (k_aload 0 (k_push (.int 8) (k_callV l E 8 19 YX8_renew d 0 0 1 (k_aload 0 (k_getR 8 19 14 (k_iload 1 (k_callV l E 1 7 YX1_leastClosed d 0 0 1 (k_push (.int (-1)) (k_icmp_ne (k_push (.int 0) (k_iret .int Q)) (k_push (.int 1) (k_iret .int Q))))))))))) (k_push (.int (-1)) (k_iret .int Q))))))
set_option maxRecDepth 100000 in
set_option maxHeartbeats 4000000 in
theorem gX8_safe_0 {l : Launch} {E : Ev} {d : Nat} {Q : Option Value → Hp → Prop} {ls : Lv} {st : List Value} {h : Hp} (hB : bX8_safe_0 l E d Q ls st h) : Go l E YX8_safe (d + 1) 0 0 Q 0 0 0 ls st h :=
  (sd_iload_n (i := 1) rfl dX8_safe_0 (sd_if_lt (tgt := 10) (by decide) dX8_safe_1 (sd_iconst (v := (-1)) (by decide) dX8_safe_10 (sd_iret (ty := .int) rfl (by decide) (by decide) dX8_safe_11)) (sd_iload_n (i := 1) rfl dX8_safe_4 (sd_bipush (v := 8) (by decide) dX8_safe_5 (sd_icmp_le (tgt := 12) (by decide) dX8_safe_7 (sd_aload_n (i := 0) rfl dX8_safe_12 (sd_bipush (v := 8) (by decide) dX8_safe_13 (sd_callV (Y' := YX8_renew) (mc' := 0) (ms' := 0) (n := 1) clsX8.1 mw_772 mw_774 mw_15 mw_100 mw_775 rfl (okmX8_renew) (by decide) (Nat.le_refl _) (by decide) (by decide) dX8_safe_15 (sd_aload_n (i := 0) rfl dX8_safe_18 (sd_getR clsX8 (f := 14) (by decide) (fun _ _ _ => rfl) mw_445 dX8_safe_19 (sd_iload_n (i := 1) rfl dX8_safe_22 (sd_callV (Y' := YX1_leastClosed) (mc' := 0) (ms' := 0) (n := 1) clsX1.1 mw_988 mw_989 mw_990 mw_105 mw_991 rfl (okmX1_leastClosed) (by decide) (Nat.le_refl _) (by decide) (by decide) dX8_safe_23 (sd_iconst (v := (-1)) (by decide) dX8_safe_26 (sd_icmp_ne (tgt := 34) (by decide) dX8_safe_27 (sd_iconst (v := 0) (by decide) dX8_safe_34 (sd_iret (ty := .int) rfl (by decide) (by decide) dX8_safe_35)) (sd_iconst (v := 1) (by decide) dX8_safe_30 (sd_goto (tgt := 35) (by decide) dX8_safe_31 (sd_iret (ty := .int) rfl (by decide) (by decide) dX8_safe_35)))))))))))) (sd_iconst (v := (-1)) (by decide) dX8_safe_10 (sd_iret (ty := .int) rfl (by decide) (by decide) dX8_safe_11)))))) : Sd l E YX8_safe (d + 1) 0 0 Q 0 0 0 (bX8_safe_0 l E d Q)) ls st h hB
theorem eX8_safe {l : Launch} {E : Ev} {d : Nat} {Q : Option Value → Hp → Prop} {h : Hp} {a0 : Nat} {x1 : Int32} (hk : Go l E YX8_safe d 0 0 Q 0 0 0 [some (.ref a0), some (.int x1)] [] h) : GoM l E YX8_safe d 0 0 [.ref a0, .int x1] h Q := GoM.of (by decide +kernel) rfl (by simp [entA, YX8_safe]) hk
theorem dX8_unsf_0 : decode cX8_unsf 0 = .ok (.iload_n 1, 1) := by decide +kernel
theorem dX8_unsf_1 : decode cX8_unsf 1 = .ok (.ifCond .lt 9, 3) := by decide +kernel
theorem dX8_unsf_4 : decode cX8_unsf 4 = .ok (.iload_n 1, 1) := by decide +kernel
theorem dX8_unsf_5 : decode cX8_unsf 5 = .ok (.bipush 8, 2) := by decide +kernel
theorem dX8_unsf_7 : decode cX8_unsf 7 = .ok (.if_icmp .le 5, 3) := by decide +kernel
theorem dX8_unsf_10 : decode cX8_unsf 10 = .ok (.iconst (-1), 1) := by decide +kernel
theorem dX8_unsf_11 : decode cX8_unsf 11 = .ok (.ireturn, 1) := by decide +kernel
theorem dX8_unsf_12 : decode cX8_unsf 12 = .ok (.aload_n 0, 1) := by decide +kernel
theorem dX8_unsf_13 : decode cX8_unsf 13 = .ok (.bipush 8, 2) := by decide +kernel
theorem dX8_unsf_15 : decode cX8_unsf 15 = .ok (.invokevirtual 181, 3) := by decide +kernel
theorem dX8_unsf_18 : decode cX8_unsf 18 = .ok (.aload_n 0, 1) := by decide +kernel
theorem dX8_unsf_19 : decode cX8_unsf 19 = .ok (.getfield 64, 3) := by decide +kernel
theorem dX8_unsf_22 : decode cX8_unsf 22 = .ok (.iload_n 1, 1) := by decide +kernel
theorem dX8_unsf_23 : decode cX8_unsf 23 = .ok (.invokevirtual 244, 3) := by decide +kernel
theorem dX8_unsf_26 : decode cX8_unsf 26 = .ok (.ireturn, 1) := by decide +kernel
def bX8_unsf_0 (l : Launch) (E : Ev) (d : Nat) (Q : Option Value → Hp → Prop) : Kt := k_iload 1 (k_if_lt (k_push (.int (-1)) (k_iret .int Q)) (k_iload 1 (k_push (.int 8) (k_icmp_le (k_aload 0 (k_push (.int 8) (k_callV l E 8 19 YX8_renew d 0 0 1 (k_aload 0 (k_getR 8 19 14 (k_iload 1 (k_callV l E 1 7 YX1_leastClosed d 0 0 1 (k_iret .int Q)))))))) (k_push (.int (-1)) (k_iret .int Q))))))
set_option maxRecDepth 100000 in
set_option maxHeartbeats 4000000 in
theorem gX8_unsf_0 {l : Launch} {E : Ev} {d : Nat} {Q : Option Value → Hp → Prop} {ls : Lv} {st : List Value} {h : Hp} (hB : bX8_unsf_0 l E d Q ls st h) : Go l E YX8_unsf (d + 1) 0 0 Q 0 0 0 ls st h :=
  (sd_iload_n (i := 1) rfl dX8_unsf_0 (sd_if_lt (tgt := 10) (by decide) dX8_unsf_1 (sd_iconst (v := (-1)) (by decide) dX8_unsf_10 (sd_iret (ty := .int) rfl (by decide) (by decide) dX8_unsf_11)) (sd_iload_n (i := 1) rfl dX8_unsf_4 (sd_bipush (v := 8) (by decide) dX8_unsf_5 (sd_icmp_le (tgt := 12) (by decide) dX8_unsf_7 (sd_aload_n (i := 0) rfl dX8_unsf_12 (sd_bipush (v := 8) (by decide) dX8_unsf_13 (sd_callV (Y' := YX8_renew) (mc' := 0) (ms' := 0) (n := 1) clsX8.1 mw_772 mw_774 mw_15 mw_100 mw_775 rfl (okmX8_renew) (by decide) (Nat.le_refl _) (by decide) (by decide) dX8_unsf_15 (sd_aload_n (i := 0) rfl dX8_unsf_18 (sd_getR clsX8 (f := 14) (by decide) (fun _ _ _ => rfl) mw_445 dX8_unsf_19 (sd_iload_n (i := 1) rfl dX8_unsf_22 (sd_callV (Y' := YX1_leastClosed) (mc' := 0) (ms' := 0) (n := 1) clsX1.1 mw_988 mw_989 mw_990 mw_105 mw_991 rfl (okmX1_leastClosed) (by decide) (Nat.le_refl _) (by decide) (by decide) dX8_unsf_23 (sd_iret (ty := .int) rfl (by decide) (by decide) dX8_unsf_26)))))))) (sd_iconst (v := (-1)) (by decide) dX8_unsf_10 (sd_iret (ty := .int) rfl (by decide) (by decide) dX8_unsf_11)))))) : Sd l E YX8_unsf (d + 1) 0 0 Q 0 0 0 (bX8_unsf_0 l E d Q)) ls st h hB
theorem eX8_unsf {l : Launch} {E : Ev} {d : Nat} {Q : Option Value → Hp → Prop} {h : Hp} {a0 : Nat} {x1 : Int32} (hk : Go l E YX8_unsf d 0 0 Q 0 0 0 [some (.ref a0), some (.int x1)] [] h) : GoM l E YX8_unsf d 0 0 [.ref a0, .int x1] h Q := GoM.of (by decide +kernel) rfl (by simp [entA, YX8_unsf]) hk
theorem dX8_most_0 : decode cX8_most 0 = .ok (.aload_n 0, 1) := by decide +kernel
theorem dX8_most_1 : decode cX8_most 1 = .ok (.bipush 8, 2) := by decide +kernel
theorem dX8_most_3 : decode cX8_most 3 = .ok (.invokevirtual 181, 3) := by decide +kernel
theorem dX8_most_6 : decode cX8_most 6 = .ok (.aload_n 0, 1) := by decide +kernel
theorem dX8_most_7 : decode cX8_most 7 = .ok (.getfield 64, 3) := by decide +kernel
theorem dX8_most_10 : decode cX8_most 10 = .ok (.bipush 8, 2) := by decide +kernel
theorem dX8_most_12 : decode cX8_most 12 = .ok (.invokevirtual 244, 3) := by decide +kernel
theorem dX8_most_15 : decode cX8_most 15 = .ok (.istore_n 1, 1) := by decide +kernel
theorem dX8_most_16 : decode cX8_most 16 = .ok (.iload_n 1, 1) := by decide +kernel
theorem dX8_most_17 : decode cX8_most 17 = .ok (.iconst (-1), 1) := by decide +kernel
theorem dX8_most_18 : decode cX8_most 18 = .ok (.if_icmp .ne 8, 3) := by decide +kernel
theorem dX8_most_21 : decode cX8_most 21 = .ok (.bipush 8, 2) := by decide +kernel
theorem dX8_most_23 : decode cX8_most 23 = .ok (.goto 9, 3) := by decide +kernel
theorem dX8_most_26 : decode cX8_most 26 = .ok (.iload_n 1, 1) := by decide +kernel
theorem dX8_most_27 : decode cX8_most 27 = .ok (.invokestatic 247, 3) := by decide +kernel
theorem dX8_most_30 : decode cX8_most 30 = .ok (.iconst 1, 1) := by decide +kernel
theorem dX8_most_31 : decode cX8_most 31 = .ok (.isub, 1) := by decide +kernel
theorem dX8_most_32 : decode cX8_most 32 = .ok (.ireturn, 1) := by decide +kernel
def bX8_most_0 (l : Launch) (E : Ev) (d : Nat) (Q : Option Value → Hp → Prop) : Kt := k_aload 0 (k_push (.int 8) (k_callV l E 8 19 YX8_renew d 0 0 1 (k_aload 0 (k_getR 8 19 14 (k_push (.int 8) (k_callV l E 1 7 YX1_leastClosed d 0 0 1 (k_istore 1 (k_iload 1 (k_push (.int (-1)) (k_icmp_ne (k_iload 1 (k_callS l E YJ6_bitCount_0f7a4 d 0 0 1 (k_push (.int 1) (k_isub (k_iret .int Q))))) (k_push (.int 8) (k_iret .int Q))))))))))))
set_option maxRecDepth 100000 in
set_option maxHeartbeats 4000000 in
theorem gX8_most_0 {l : Launch} {E : Ev} {d : Nat} {Q : Option Value → Hp → Prop} {ls : Lv} {st : List Value} {h : Hp} (hB : bX8_most_0 l E d Q ls st h) : Go l E YX8_most (d + 1) 0 0 Q 0 0 0 ls st h :=
  (sd_aload_n (i := 0) rfl dX8_most_0 (sd_bipush (v := 8) (by decide) dX8_most_1 (sd_callV (Y' := YX8_renew) (mc' := 0) (ms' := 0) (n := 1) clsX8.1 mw_772 mw_774 mw_15 mw_100 mw_775 rfl (okmX8_renew) (by decide) (Nat.le_refl _) (by decide) (by decide) dX8_most_3 (sd_aload_n (i := 0) rfl dX8_most_6 (sd_getR clsX8 (f := 14) (by decide) (fun _ _ _ => rfl) mw_445 dX8_most_7 (sd_bipush (v := 8) (by decide) dX8_most_10 (sd_callV (Y' := YX1_leastClosed) (mc' := 0) (ms' := 0) (n := 1) clsX1.1 mw_988 mw_989 mw_990 mw_105 mw_991 rfl (okmX1_leastClosed) (by decide) (Nat.le_refl _) (by decide) (by decide) dX8_most_12 (sd_istore_n (i := 1) rfl (by decide) dX8_most_15 (sd_iload_n (i := 1) rfl dX8_most_16 (sd_iconst (v := (-1)) (by decide) dX8_most_17 (sd_icmp_ne (tgt := 26) (by decide) dX8_most_18 (sd_iload_n (i := 1) rfl dX8_most_26 (sd_callS (Y' := YJ6_bitCount_0f7a4) (mc' := 0) (ms' := 0) (n := 1) mw_1000 mw_975 mw_117 mw_976 (okmJ6_bitCount_0f7a4) (by decide) (Nat.le_refl _) (by decide) (by decide) dX8_most_27 (sd_iconst (v := 1) (by decide) dX8_most_30 (sd_isub dX8_most_31 (sd_iret (ty := .int) rfl (by decide) (by decide) dX8_most_32))))) (sd_bipush (v := 8) (by decide) dX8_most_21 (sd_goto (tgt := 32) (by decide) dX8_most_23 (sd_iret (ty := .int) rfl (by decide) (by decide) dX8_most_32))))))))))))) : Sd l E YX8_most (d + 1) 0 0 Q 0 0 0 (bX8_most_0 l E d Q)) ls st h hB
theorem eX8_most {l : Launch} {E : Ev} {d : Nat} {Q : Option Value → Hp → Prop} {h : Hp} {a0 : Nat} (hk : Go l E YX8_most d 0 0 Q 0 0 0 [some (.ref a0), none] [] h) : GoM l E YX8_most d 0 0 [.ref a0] h Q := GoM.of (by decide +kernel) rfl (by simp [entA, YX8_most]) hk
theorem dX8_missed_0 : decode cX8_missed 0 = .ok (.aload_n 0, 1) := by decide +kernel
theorem dX8_missed_1 : decode cX8_missed 1 = .ok (.iconst 2, 1) := by decide +kernel
theorem dX8_missed_2 : decode cX8_missed 2 = .ok (.invokevirtual 181, 3) := by decide +kernel
theorem dX8_missed_5 : decode cX8_missed 5 = .ok (.aload_n 0, 1) := by decide +kernel
theorem dX8_missed_6 : decode cX8_missed 6 = .ok (.getfield 10, 3) := by decide +kernel
theorem dX8_missed_9 : decode cX8_missed 9 = .ok (.iload_n 1, 1) := by decide +kernel
theorem dX8_missed_10 : decode cX8_missed 10 = .ok (.invokevirtual 111, 3) := by decide +kernel
theorem dX8_missed_13 : decode cX8_missed 13 = .ok (.ifCond .eq 13, 3) := by decide +kernel
theorem dX8_missed_16 : decode cX8_missed 16 = .ok (.aload_n 0, 1) := by decide +kernel
theorem dX8_missed_17 : decode cX8_missed 17 = .ok (.getfield 184, 3) := by decide +kernel
theorem dX8_missed_20 : decode cX8_missed 20 = .ok (.invokestatic 202, 3) := by decide +kernel
theorem dX8_missed_23 : decode cX8_missed 23 = .ok (.ifCond .eq 5, 3) := by decide +kernel
theorem dX8_missed_26 : decode cX8_missed 26 = .ok (.iconst (-1), 1) := by decide +kernel
theorem dX8_missed_27 : decode cX8_missed 27 = .ok (.ireturn, 1) := by decide +kernel
theorem dX8_missed_28 : decode cX8_missed 28 = .ok (.aload_n 0, 1) := by decide +kernel
theorem dX8_missed_29 : decode cX8_missed 29 = .ok (.getfield 10, 3) := by decide +kernel
theorem dX8_missed_32 : decode cX8_missed 32 = .ok (.getfield 148, 3) := by decide +kernel
theorem dX8_missed_35 : decode cX8_missed 35 = .ok (.iload_n 1, 1) := by decide +kernel
theorem dX8_missed_36 : decode cX8_missed 36 = .ok (.ishr, 1) := by decide +kernel
theorem dX8_missed_37 : decode cX8_missed 37 = .ok (.iconst 1, 1) := by decide +kernel
theorem dX8_missed_38 : decode cX8_missed 38 = .ok (.iand, 1) := by decide +kernel
theorem dX8_missed_39 : decode cX8_missed 39 = .ok (.iconst 1, 1) := by decide +kernel
theorem dX8_missed_40 : decode cX8_missed 40 = .ok (.if_icmp .ne 5, 3) := by decide +kernel
theorem dX8_missed_43 : decode cX8_missed 43 = .ok (.iconst 0, 1) := by decide +kernel
theorem dX8_missed_44 : decode cX8_missed 44 = .ok (.ireturn, 1) := by decide +kernel
theorem dX8_missed_45 : decode cX8_missed 45 = .ok (.aload_n 0, 1) := by decide +kernel
theorem dX8_missed_46 : decode cX8_missed 46 = .ok (.getfield 57, 3) := by decide +kernel
theorem dX8_missed_49 : decode cX8_missed 49 = .ok (.aload_n 0, 1) := by decide +kernel
theorem dX8_missed_50 : decode cX8_missed 50 = .ok (.getfield 45, 3) := by decide +kernel
theorem dX8_missed_53 : decode cX8_missed 53 = .ok (.aload_n 0, 1) := by decide +kernel
theorem dX8_missed_54 : decode cX8_missed 54 = .ok (.getfield 10, 3) := by decide +kernel
theorem dX8_missed_57 : decode cX8_missed 57 = .ok (.getfield 148, 3) := by decide +kernel
theorem dX8_missed_60 : decode cX8_missed 60 = .ok (.iconst 1, 1) := by decide +kernel
theorem dX8_missed_61 : decode cX8_missed 61 = .ok (.iload_n 1, 1) := by decide +kernel
theorem dX8_missed_62 : decode cX8_missed 62 = .ok (.ishl, 1) := by decide +kernel
theorem dX8_missed_63 : decode cX8_missed 63 = .ok (.ior, 1) := by decide +kernel
theorem dX8_missed_64 : decode cX8_missed 64 = .ok (.invokevirtual 252, 3) := by decide +kernel
theorem dX8_missed_67 : decode cX8_missed 67 = .ok (.lstore_n 2, 1) := by decide +kernel
theorem dX8_missed_68 : decode cX8_missed 68 = .ok (.lload_n 2, 1) := by decide +kernel
theorem dX8_missed_69 : decode cX8_missed 69 = .ok (.invokestatic 202, 3) := by decide +kernel
theorem dX8_missed_72 : decode cX8_missed 72 = .ok (.ifCond .eq 9, 3) := by decide +kernel
theorem dX8_missed_75 : decode cX8_missed 75 = .ok (.sipush 1000, 3) := by decide +kernel
theorem dX8_missed_78 : decode cX8_missed 78 = .ok (.goto 15, 3) := by decide +kernel
theorem dX8_missed_81 : decode cX8_missed 81 = .ok (.lload_n 2, 1) := by decide +kernel
theorem dX8_missed_82 : decode cX8_missed 82 = .ok (.invokestatic 188, 3) := by decide +kernel
theorem dX8_missed_85 : decode cX8_missed 85 = .ok (.aload_n 0, 1) := by decide +kernel
theorem dX8_missed_86 : decode cX8_missed 86 = .ok (.getfield 184, 3) := by decide +kernel
theorem dX8_missed_89 : decode cX8_missed 89 = .ok (.invokestatic 188, 3) := by decide +kernel
theorem dX8_missed_92 : decode cX8_missed 92 = .ok (.isub, 1) := by decide +kernel
theorem dX8_missed_93 : decode cX8_missed 93 = .ok (.ireturn, 1) := by decide +kernel
def bX8_missed_0 (l : Launch) (E : Ev) (d : Nat) (Q : Option Value → Hp → Prop) : Kt := k_aload 0 (k_push (.int 2) (k_callV l E 8 19 YX8_renew d 0 0 1 (k_aload 0 (k_getR 8 19 0 (k_iload 1 (k_callV l E 7 15 YX7_hasActor d 0 0 1 (k_if_eq (k_push (.int (-1)) (k_iret .int Q)) (k_aload 0 (k_getJ 8 19 18 (k_callS l E YX3_isNone d 0 0 1 (k_if_eq (k_aload 0 (k_getR 8 19 0 (k_getI 7 15 6 (k_iload 1 (k_ishr (k_push (.int 1) (k_iand (k_push (.int 1) (k_icmp_ne (k_aload 0 (k_getR 8 19 13 (k_aload 0 (k_getR 8 19 11 (k_aload 0 (k_getR 8 19 0 (k_getI 7 15 6 (k_push (.int 1) (k_iload 1 (k_ishl (k_ior (k_callV l E 3 10 YX3_firstOf d 0 0 2 (k_lstore 2 (k_lload 2 (k_callS l E YX3_isNone d 0 0 1 (k_if_eq (k_lload 2 (k_callS l E YX3_costIn d 0 0 1 (k_aload 0 (k_getJ 8 19 18 (k_callS l E YX3_costIn d 0 0 1 (k_isub (k_iret .int Q))))))) (k_push (.int 1000) (k_iret .int Q)))))))))))))))))) (k_push (.int 0) (k_iret .int Q))))))))))) (k_push (.int (-1)) (k_iret .int Q)))))))))))))
set_option maxRecDepth 100000 in
set_option maxHeartbeats 4000000 in
theorem gX8_missed_0 {l : Launch} {E : Ev} {d : Nat} {Q : Option Value → Hp → Prop} {ls : Lv} {st : List Value} {h : Hp} (hB : bX8_missed_0 l E d Q ls st h) : Go l E YX8_missed (d + 1) 0 0 Q 0 0 0 ls st h :=
  (sd_aload_n (i := 0) rfl dX8_missed_0 (sd_iconst (v := 2) (by decide) dX8_missed_1 (sd_callV (Y' := YX8_renew) (mc' := 0) (ms' := 0) (n := 1) clsX8.1 mw_772 mw_774 mw_15 mw_100 mw_775 rfl (okmX8_renew) (by decide) (Nat.le_refl _) (by decide) (by decide) dX8_missed_2 (sd_aload_n (i := 0) rfl dX8_missed_5 (sd_getR clsX8 (f := 0) (by decide) (fun _ _ _ => rfl) mw_431 dX8_missed_6 (sd_iload_n (i := 1) rfl dX8_missed_9 (sd_callV (Y' := YX7_hasActor) (mc' := 0) (ms' := 0) (n := 1) clsX7.1 mw_521 mw_522 mw_523 mw_101 mw_524 rfl (okmX7_hasActor) (by decide) (Nat.le_refl _) (by decide) (by decide) dX8_missed_10 (sd_if_eq (tgt := 26) (by decide) dX8_missed_13 (sd_iconst (v := (-1)) (by decide) dX8_missed_26 (sd_iret (ty := .int) rfl (by decide) (by decide) dX8_missed_27)) (sd_aload_n (i := 0) rfl dX8_missed_16 (sd_getJ clsX8 (f := 18) (by decide) (fun _ _ _ => rfl) mw_449 dX8_missed_17 (sd_callS (Y' := YX3_isNone) (mc' := 0) (ms' := 0) (n := 1) mw_909 mw_896 mw_104 mw_897 (okmX3_isNone) (by decide) (Nat.le_refl _) (by decide) (by decide) dX8_missed_20 (sd_if_eq (tgt := 28) (by decide) dX8_missed_23 (sd_aload_n (i := 0) rfl dX8_missed_28 (sd_getR clsX8 (f := 0) (by decide) (fun _ _ _ => rfl) mw_431 dX8_missed_29 (sd_getI clsX7 (f := 6) (by decide) (fun _ _ _ => rfl) mw_161 dX8_missed_32 (sd_iload_n (i := 1) rfl dX8_missed_35 (sd_ishr dX8_missed_36 (sd_iconst (v := 1) (by decide) dX8_missed_37 (sd_iand dX8_missed_38 (sd_iconst (v := 1) (by decide) dX8_missed_39 (sd_icmp_ne (tgt := 45) (by decide) dX8_missed_40 (sd_aload_n (i := 0) rfl dX8_missed_45 (sd_getR clsX8 (f := 13) (by decide) (fun _ _ _ => rfl) mw_444 dX8_missed_46 (sd_aload_n (i := 0) rfl dX8_missed_49 (sd_getR clsX8 (f := 11) (by decide) (fun _ _ _ => rfl) mw_442 dX8_missed_50 (sd_aload_n (i := 0) rfl dX8_missed_53 (sd_getR clsX8 (f := 0) (by decide) (fun _ _ _ => rfl) mw_431 dX8_missed_54 (sd_getI clsX7 (f := 6) (by decide) (fun _ _ _ => rfl) mw_161 dX8_missed_57 (sd_iconst (v := 1) (by decide) dX8_missed_60 (sd_iload_n (i := 1) rfl dX8_missed_61 (sd_ishl dX8_missed_62 (sd_ior dX8_missed_63 (sd_callV (Y' := YX3_firstOf) (mc' := 0) (ms' := 0) (n := 2) clsX3.1 mw_790 mw_791 mw_792 mw_104 mw_793 rfl (okmX3_firstOf) (by decide) (Nat.le_refl _) (by decide) (by decide) dX8_missed_64 (sd_lstore_n (i := 2) rfl (by decide) dX8_missed_67 (sd_lload_n (i := 2) rfl dX8_missed_68 (sd_callS (Y' := YX3_isNone) (mc' := 0) (ms' := 0) (n := 1) mw_909 mw_896 mw_104 mw_897 (okmX3_isNone) (by decide) (Nat.le_refl _) (by decide) (by decide) dX8_missed_69 (sd_if_eq (tgt := 81) (by decide) dX8_missed_72 (sd_lload_n (i := 2) rfl dX8_missed_81 (sd_callS (Y' := YX3_costIn) (mc' := 0) (ms' := 0) (n := 1) mw_892 mw_893 mw_104 mw_894 (okmX3_costIn) (by decide) (Nat.le_refl _) (by decide) (by decide) dX8_missed_82 (sd_aload_n (i := 0) rfl dX8_missed_85 (sd_getJ clsX8 (f := 18) (by decide) (fun _ _ _ => rfl) mw_449 dX8_missed_86 (sd_callS (Y' := YX3_costIn) (mc' := 0) (ms' := 0) (n := 1) mw_892 mw_893 mw_104 mw_894 (okmX3_costIn) (by decide) (Nat.le_refl _) (by decide) (by decide) dX8_missed_89 (sd_isub dX8_missed_92 (sd_iret (ty := .int) rfl (by decide) (by decide) dX8_missed_93))))))) (sd_sipush (v := 1000) (by decide) dX8_missed_75 (sd_goto (tgt := 93) (by decide) dX8_missed_78 (sd_iret (ty := .int) rfl (by decide) (by decide) dX8_missed_93))))))))))))))))))) (sd_iconst (v := 0) (by decide) dX8_missed_43 (sd_iret (ty := .int) rfl (by decide) (by decide) dX8_missed_44))))))))))) (sd_iconst (v := (-1)) (by decide) dX8_missed_26 (sd_iret (ty := .int) rfl (by decide) (by decide) dX8_missed_27))))))))))))) : Sd l E YX8_missed (d + 1) 0 0 Q 0 0 0 (bX8_missed_0 l E d Q)) ls st h hB
theorem eX8_missed {l : Launch} {E : Ev} {d : Nat} {Q : Option Value → Hp → Prop} {h : Hp} {a0 : Nat} {x1 : Int32} (hk : Go l E YX8_missed d 0 0 Q 0 0 0 [some (.ref a0), some (.int x1), none, none] [] h) : GoM l E YX8_missed d 0 0 [.ref a0, .int x1] h Q := GoM.of (by decide +kernel) rfl (by simp [entA, YX8_missed]) hk
theorem dX8_key_0 : decode cX8_key 0 = .ok (.aload_n 0, 1) := by decide +kernel
theorem dX8_key_1 : decode cX8_key 1 = .ok (.bipush 8, 2) := by decide +kernel
theorem dX8_key_3 : decode cX8_key 3 = .ok (.invokevirtual 181, 3) := by decide +kernel
theorem dX8_key_6 : decode cX8_key 6 = .ok (.aload_n 0, 1) := by decide +kernel
theorem dX8_key_7 : decode cX8_key 7 = .ok (.getfield 10, 3) := by decide +kernel
theorem dX8_key_10 : decode cX8_key 10 = .ok (.iload_n 1, 1) := by decide +kernel
theorem dX8_key_11 : decode cX8_key 11 = .ok (.invokevirtual 111, 3) := by decide +kernel
theorem dX8_key_14 : decode cX8_key 14 = .ok (.ifCond .eq 14, 3) := by decide +kernel
theorem dX8_key_17 : decode cX8_key 17 = .ok (.aload_n 0, 1) := by decide +kernel
theorem dX8_key_18 : decode cX8_key 18 = .ok (.getfield 64, 3) := by decide +kernel
theorem dX8_key_21 : decode cX8_key 21 = .ok (.iload_n 1, 1) := by decide +kernel
theorem dX8_key_22 : decode cX8_key 22 = .ok (.invokevirtual 256, 3) := by decide +kernel
theorem dX8_key_25 : decode cX8_key 25 = .ok (.goto 4, 3) := by decide +kernel
theorem dX8_key_28 : decode cX8_key 28 = .ok (.iconst (-1), 1) := by decide +kernel
theorem dX8_key_29 : decode cX8_key 29 = .ok (.ireturn, 1) := by decide +kernel
def bX8_key_0 (l : Launch) (E : Ev) (d : Nat) (Q : Option Value → Hp → Prop) : Kt := k_aload 0 (k_push (.int 8) (k_callV l E 8 19 YX8_renew d 0 0 1 (k_aload 0 (k_getR 8 19 0 (k_iload 1 (k_callV l E 7 15 YX7_hasActor d 0 0 1 (k_if_eq (k_push (.int (-1)) (k_iret .int Q)) (k_aload 0 (k_getR 8 19 14 (k_iload 1 (k_callV l E 1 7 YX1_keySets d 0 0 1 (k_iret .int Q))))))))))))
set_option maxRecDepth 100000 in
set_option maxHeartbeats 4000000 in
theorem gX8_key_0 {l : Launch} {E : Ev} {d : Nat} {Q : Option Value → Hp → Prop} {ls : Lv} {st : List Value} {h : Hp} (hB : bX8_key_0 l E d Q ls st h) : Go l E YX8_key (d + 1) 0 0 Q 0 0 0 ls st h :=
  (sd_aload_n (i := 0) rfl dX8_key_0 (sd_bipush (v := 8) (by decide) dX8_key_1 (sd_callV (Y' := YX8_renew) (mc' := 0) (ms' := 0) (n := 1) clsX8.1 mw_772 mw_774 mw_15 mw_100 mw_775 rfl (okmX8_renew) (by decide) (Nat.le_refl _) (by decide) (by decide) dX8_key_3 (sd_aload_n (i := 0) rfl dX8_key_6 (sd_getR clsX8 (f := 0) (by decide) (fun _ _ _ => rfl) mw_431 dX8_key_7 (sd_iload_n (i := 1) rfl dX8_key_10 (sd_callV (Y' := YX7_hasActor) (mc' := 0) (ms' := 0) (n := 1) clsX7.1 mw_521 mw_522 mw_523 mw_101 mw_524 rfl (okmX7_hasActor) (by decide) (Nat.le_refl _) (by decide) (by decide) dX8_key_11 (sd_if_eq (tgt := 28) (by decide) dX8_key_14 (sd_iconst (v := (-1)) (by decide) dX8_key_28 (sd_iret (ty := .int) rfl (by decide) (by decide) dX8_key_29)) (sd_aload_n (i := 0) rfl dX8_key_17 (sd_getR clsX8 (f := 14) (by decide) (fun _ _ _ => rfl) mw_445 dX8_key_18 (sd_iload_n (i := 1) rfl dX8_key_21 (sd_callV (Y' := YX1_keySets) (mc' := 0) (ms' := 0) (n := 1) clsX1.1 mw_1009 mw_1010 mw_1011 mw_105 mw_1012 rfl (okmX1_keySets) (by decide) (Nat.le_refl _) (by decide) (by decide) dX8_key_22 (sd_goto (tgt := 29) (by decide) dX8_key_25 (sd_iret (ty := .int) rfl (by decide) (by decide) dX8_key_29))))))))))))) : Sd l E YX8_key (d + 1) 0 0 Q 0 0 0 (bX8_key_0 l E d Q)) ls st h hB
theorem eX8_key {l : Launch} {E : Ev} {d : Nat} {Q : Option Value → Hp → Prop} {h : Hp} {a0 : Nat} {x1 : Int32} (hk : Go l E YX8_key d 0 0 Q 0 0 0 [some (.ref a0), some (.int x1)] [] h) : GoM l E YX8_key d 0 0 [.ref a0, .int x1] h Q := GoM.of (by decide +kernel) rfl (by simp [entA, YX8_key]) hk
theorem dX8_odds_0 : decode cX8_odds 0 = .ok (.iload_n 1, 1) := by decide +kernel
theorem dX8_odds_1 : decode cX8_odds 1 = .ok (.lookupswitch 66 #[(0, 27), (1, 45)], 27) := by decide +kernel
theorem dX8_odds_28 : decode cX8_odds 28 = .ok (.aload_n 0, 1) := by decide +kernel
theorem dX8_odds_29 : decode cX8_odds 29 = .ok (.bipush 8, 2) := by decide +kernel
theorem dX8_odds_31 : decode cX8_odds 31 = .ok (.invokevirtual 181, 3) := by decide +kernel
theorem dX8_odds_34 : decode cX8_odds 34 = .ok (.aload_n 0, 1) := by decide +kernel
theorem dX8_odds_35 : decode cX8_odds 35 = .ok (.getfield 64, 3) := by decide +kernel
theorem dX8_odds_38 : decode cX8_odds 38 = .ok (.aload_n 0, 1) := by decide +kernel
theorem dX8_odds_39 : decode cX8_odds 39 = .ok (.getfield 10, 3) := by decide +kernel
theorem dX8_odds_42 : decode cX8_odds 42 = .ok (.invokevirtual 259, 3) := by decide +kernel
theorem dX8_odds_45 : decode cX8_odds 45 = .ok (.lreturn, 1) := by decide +kernel
theorem dX8_odds_46 : decode cX8_odds 46 = .ok (.aload_n 0, 1) := by decide +kernel
theorem dX8_odds_47 : decode cX8_odds 47 = .ok (.iconst 1, 1) := by decide +kernel
theorem dX8_odds_48 : decode cX8_odds 48 = .ok (.invokevirtual 181, 3) := by decide +kernel
theorem dX8_odds_51 : decode cX8_odds 51 = .ok (.aload_n 0, 1) := by decide +kernel
theorem dX8_odds_52 : decode cX8_odds 52 = .ok (.getfield 57, 3) := by decide +kernel
theorem dX8_odds_55 : decode cX8_odds 55 = .ok (.aload_n 0, 1) := by decide +kernel
theorem dX8_odds_56 : decode cX8_odds 56 = .ok (.getfield 45, 3) := by decide +kernel
theorem dX8_odds_59 : decode cX8_odds 59 = .ok (.aload_n 0, 1) := by decide +kernel
theorem dX8_odds_60 : decode cX8_odds 60 = .ok (.getfield 10, 3) := by decide +kernel
theorem dX8_odds_63 : decode cX8_odds 63 = .ok (.invokevirtual 263, 3) := by decide +kernel
theorem dX8_odds_66 : decode cX8_odds 66 = .ok (.lreturn, 1) := by decide +kernel
theorem dX8_odds_67 : decode cX8_odds 67 = .ok (.ldc2_w 267, 3) := by decide +kernel
theorem dX8_odds_70 : decode cX8_odds 70 = .ok (.lreturn, 1) := by decide +kernel
def bX8_odds_0 (l : Launch) (E : Ev) (d : Nat) (Q : Option Value → Hp → Prop) : Kt := k_iload 1 (k_sw [(0, (k_aload 0 (k_push (.int 8) (k_callV l E 8 19 YX8_renew d 0 0 1 (k_aload 0 (k_getR 8 19 14 (k_aload 0 (k_getR 8 19 0 (k_callV l E 1 7 YX1_closedOdds d 0 0 1 (k_lret Q)))))))))), (1, (k_aload 0 (k_push (.int 1) (k_callV l E 8 19 YX8_renew d 0 0 1 (k_aload 0 (k_getR 8 19 13 (k_aload 0 (k_getR 8 19 11 (k_aload 0 (k_getR 8 19 0 (k_callV l E 3 10 YX3_meanCost d 0 0 2 (k_lret Q))))))))))))] (k_push (.long (-1)) (k_lret Q)))
set_option maxRecDepth 100000 in
set_option maxHeartbeats 4000000 in
theorem gX8_odds_0 {l : Launch} {E : Ev} {d : Nat} {Q : Option Value → Hp → Prop} {ls : Lv} {st : List Value} {h : Hp} (hB : bX8_odds_0 l E d Q ls st h) : Go l E YX8_odds (d + 1) 0 0 Q 0 0 0 ls st h :=
  (sd_iload_n (i := 1) rfl dX8_odds_0 (sd_lookup dX8_odds_1 (by decide) (dt := 67) (by decide) (sd_ldc2 (v := (-1)) mw_1033 dX8_odds_67 (sd_lret rfl (by decide) (by decide) dX8_odds_70)) rfl (lk_all (lk_cons (tgt := 28) (by decide) (by decide) (sd_aload_n (i := 0) rfl dX8_odds_28 (sd_bipush (v := 8) (by decide) dX8_odds_29 (sd_callV (Y' := YX8_renew) (mc' := 0) (ms' := 0) (n := 1) clsX8.1 mw_772 mw_774 mw_15 mw_100 mw_775 rfl (okmX8_renew) (by decide) (Nat.le_refl _) (by decide) (by decide) dX8_odds_31 (sd_aload_n (i := 0) rfl dX8_odds_34 (sd_getR clsX8 (f := 14) (by decide) (fun _ _ _ => rfl) mw_445 dX8_odds_35 (sd_aload_n (i := 0) rfl dX8_odds_38 (sd_getR clsX8 (f := 0) (by decide) (fun _ _ _ => rfl) mw_431 dX8_odds_39 (sd_callV (Y' := YX1_closedOdds) (mc' := 0) (ms' := 0) (n := 1) clsX1.1 mw_1017 mw_1018 mw_1019 mw_105 mw_1020 rfl (okmX1_closedOdds) (by decide) (Nat.le_refl _) (by decide) (by decide) dX8_odds_42 (sd_lret rfl (by decide) (by decide) dX8_odds_45))))))))) (lk_cons (tgt := 46) (by decide) (by decide) (sd_aload_n (i := 0) rfl dX8_odds_46 (sd_iconst (v := 1) (by decide) dX8_odds_47 (sd_callV (Y' := YX8_renew) (mc' := 0) (ms' := 0) (n := 1) clsX8.1 mw_772 mw_774 mw_15 mw_100 mw_775 rfl (okmX8_renew) (by decide) (Nat.le_refl _) (by decide) (by decide) dX8_odds_48 (sd_aload_n (i := 0) rfl dX8_odds_51 (sd_getR clsX8 (f := 13) (by decide) (fun _ _ _ => rfl) mw_444 dX8_odds_52 (sd_aload_n (i := 0) rfl dX8_odds_55 (sd_getR clsX8 (f := 11) (by decide) (fun _ _ _ => rfl) mw_442 dX8_odds_56 (sd_aload_n (i := 0) rfl dX8_odds_59 (sd_getR clsX8 (f := 0) (by decide) (fun _ _ _ => rfl) mw_431 dX8_odds_60 (sd_callV (Y' := YX3_meanCost) (mc' := 0) (ms' := 0) (n := 2) clsX3.1 mw_1024 mw_1025 mw_1026 mw_104 mw_1027 rfl (okmX3_meanCost) (by decide) (Nat.le_refl _) (by decide) (by decide) dX8_odds_63 (sd_lret rfl (by decide) (by decide) dX8_odds_66))))))))))) (lk_nil))))) : Sd l E YX8_odds (d + 1) 0 0 Q 0 0 0 (bX8_odds_0 l E d Q)) ls st h hB
theorem eX8_odds {l : Launch} {E : Ev} {d : Nat} {Q : Option Value → Hp → Prop} {h : Hp} {a0 : Nat} {x1 : Int32} (hk : Go l E YX8_odds d 0 0 Q 0 0 0 [some (.ref a0), some (.int x1)] [] h) : GoM l E YX8_odds d 0 0 [.ref a0, .int x1] h Q := GoM.of (by decide +kernel) rfl (by simp [entA, YX8_odds]) hk
theorem dX8_lesson_0 : decode cX8_lesson 0 = .ok (.iload_n 3, 1) := by decide +kernel
theorem dX8_lesson_1 : decode cX8_lesson 1 = .ok (.iconst 1, 1) := by decide +kernel
theorem dX8_lesson_2 : decode cX8_lesson 2 = .ok (.if_icmp .lt 22, 3) := by decide +kernel
theorem dX8_lesson_5 : decode cX8_lesson 5 = .ok (.iload_n 3, 1) := by decide +kernel
theorem dX8_lesson_6 : decode cX8_lesson 6 = .ok (.bipush 9, 2) := by decide +kernel
theorem dX8_lesson_8 : decode cX8_lesson 8 = .ok (.if_icmp .gt 16, 3) := by decide +kernel
theorem dX8_lesson_11 : decode cX8_lesson 11 = .ok (.iload 4, 2) := by decide +kernel
theorem dX8_lesson_13 : decode cX8_lesson 13 = .ok (.iconst 1, 1) := by decide +kernel
theorem dX8_lesson_14 : decode cX8_lesson 14 = .ok (.if_icmp .lt 10, 3) := by decide +kernel
theorem dX8_lesson_17 : decode cX8_lesson 17 = .ok (.iload 4, 2) := by decide +kernel
theorem dX8_lesson_19 : decode cX8_lesson 19 = .ok (.bipush 99, 2) := by decide +kernel
theorem dX8_lesson_21 : decode cX8_lesson 21 = .ok (.if_icmp .le 9, 3) := by decide +kernel
theorem dX8_lesson_24 : decode cX8_lesson 24 = .ok (.aload_n 0, 1) := by decide +kernel
theorem dX8_lesson_25 : decode cX8_lesson 25 = .ok (.iconst (-1), 1) := by decide +kernel
theorem dX8_lesson_26 : decode cX8_lesson 26 = .ok (.invokevirtual 89, 3) := by decide +kernel
theorem dX8_lesson_29 : decode cX8_lesson 29 = .ok (.ireturn, 1) := by decide +kernel
theorem dX8_lesson_30 : decode cX8_lesson 30 = .ok (.aload_n 0, 1) := by decide +kernel
theorem dX8_lesson_31 : decode cX8_lesson 31 = .ok (.getfield 10, 3) := by decide +kernel
theorem dX8_lesson_34 : decode cX8_lesson 34 = .ok (.iload_n 1, 1) := by decide +kernel
theorem dX8_lesson_35 : decode cX8_lesson 35 = .ok (.iload_n 2, 1) := by decide +kernel
theorem dX8_lesson_36 : decode cX8_lesson 36 = .ok (.invokevirtual 121, 3) := by decide +kernel
theorem dX8_lesson_39 : decode cX8_lesson 39 = .ok (.ifCond .ne 10, 3) := by decide +kernel
theorem dX8_lesson_42 : decode cX8_lesson 42 = .ok (.aload_n 0, 1) := by decide +kernel
theorem dX8_lesson_43 : decode cX8_lesson 43 = .ok (.bipush (-2), 2) := by decide +kernel
theorem dX8_lesson_45 : decode cX8_lesson 45 = .ok (.invokevirtual 89, 3) := by decide +kernel
theorem dX8_lesson_48 : decode cX8_lesson 48 = .ok (.ireturn, 1) := by decide +kernel
theorem dX8_lesson_49 : decode cX8_lesson 49 = .ok (.aload_n 0, 1) := by decide +kernel
theorem dX8_lesson_50 : decode cX8_lesson 50 = .ok (.getfield 10, 3) := by decide +kernel
theorem dX8_lesson_53 : decode cX8_lesson 53 = .ok (.getfield 269, 3) := by decide +kernel
theorem dX8_lesson_56 : decode cX8_lesson 56 = .ok (.bipush 7, 2) := by decide +kernel
theorem dX8_lesson_58 : decode cX8_lesson 58 = .ok (.if_icmp .lt 10, 3) := by decide +kernel
theorem dX8_lesson_61 : decode cX8_lesson 61 = .ok (.aload_n 0, 1) := by decide +kernel
theorem dX8_lesson_62 : decode cX8_lesson 62 = .ok (.bipush (-5), 2) := by decide +kernel
theorem dX8_lesson_64 : decode cX8_lesson 64 = .ok (.invokevirtual 89, 3) := by decide +kernel
theorem dX8_lesson_67 : decode cX8_lesson 67 = .ok (.ireturn, 1) := by decide +kernel
theorem dX8_lesson_68 : decode cX8_lesson 68 = .ok (.aload_n 0, 1) := by decide +kernel
theorem dX8_lesson_69 : decode cX8_lesson 69 = .ok (.getfield 10, 3) := by decide +kernel
theorem dX8_lesson_72 : decode cX8_lesson 72 = .ok (.getfield 269, 3) := by decide +kernel
theorem dX8_lesson_75 : decode cX8_lesson 75 = .ok (.iconst 4, 1) := by decide +kernel
theorem dX8_lesson_76 : decode cX8_lesson 76 = .ok (.imul, 1) := by decide +kernel
theorem dX8_lesson_77 : decode cX8_lesson 77 = .ok (.istore 5, 2) := by decide +kernel
theorem dX8_lesson_79 : decode cX8_lesson 79 = .ok (.aload_n 0, 1) := by decide +kernel
theorem dX8_lesson_80 : decode cX8_lesson 80 = .ok (.getfield 10, 3) := by decide +kernel
theorem dX8_lesson_83 : decode cX8_lesson 83 = .ok (.getfield 272, 3) := by decide +kernel
theorem dX8_lesson_86 : decode cX8_lesson 86 = .ok (.iload 5, 2) := by decide +kernel
theorem dX8_lesson_88 : decode cX8_lesson 88 = .ok (.iload_n 1, 1) := by decide +kernel
theorem dX8_lesson_89 : decode cX8_lesson 89 = .ok (.iastore, 1) := by decide +kernel
theorem dX8_lesson_90 : decode cX8_lesson 90 = .ok (.aload_n 0, 1) := by decide +kernel
theorem dX8_lesson_91 : decode cX8_lesson 91 = .ok (.getfield 10, 3) := by decide +kernel
theorem dX8_lesson_94 : decode cX8_lesson 94 = .ok (.getfield 272, 3) := by decide +kernel
theorem dX8_lesson_97 : decode cX8_lesson 97 = .ok (.iload 5, 2) := by decide +kernel
theorem dX8_lesson_99 : decode cX8_lesson 99 = .ok (.iconst 1, 1) := by decide +kernel
theorem dX8_lesson_100 : decode cX8_lesson 100 = .ok (.iadd, 1) := by decide +kernel
theorem dX8_lesson_101 : decode cX8_lesson 101 = .ok (.iload_n 2, 1) := by decide +kernel
theorem dX8_lesson_102 : decode cX8_lesson 102 = .ok (.iastore, 1) := by decide +kernel
theorem dX8_lesson_103 : decode cX8_lesson 103 = .ok (.aload_n 0, 1) := by decide +kernel
theorem dX8_lesson_104 : decode cX8_lesson 104 = .ok (.getfield 10, 3) := by decide +kernel
theorem dX8_lesson_107 : decode cX8_lesson 107 = .ok (.getfield 272, 3) := by decide +kernel
theorem dX8_lesson_110 : decode cX8_lesson 110 = .ok (.iload 5, 2) := by decide +kernel
theorem dX8_lesson_112 : decode cX8_lesson 112 = .ok (.iconst 2, 1) := by decide +kernel
theorem dX8_lesson_113 : decode cX8_lesson 113 = .ok (.iadd, 1) := by decide +kernel
theorem dX8_lesson_114 : decode cX8_lesson 114 = .ok (.iload_n 3, 1) := by decide +kernel
theorem dX8_lesson_115 : decode cX8_lesson 115 = .ok (.iastore, 1) := by decide +kernel
theorem dX8_lesson_116 : decode cX8_lesson 116 = .ok (.aload_n 0, 1) := by decide +kernel
theorem dX8_lesson_117 : decode cX8_lesson 117 = .ok (.getfield 10, 3) := by decide +kernel
theorem dX8_lesson_120 : decode cX8_lesson 120 = .ok (.getfield 272, 3) := by decide +kernel
theorem dX8_lesson_123 : decode cX8_lesson 123 = .ok (.iload 5, 2) := by decide +kernel
theorem dX8_lesson_125 : decode cX8_lesson 125 = .ok (.iconst 3, 1) := by decide +kernel
theorem dX8_lesson_126 : decode cX8_lesson 126 = .ok (.iadd, 1) := by decide +kernel
theorem dX8_lesson_127 : decode cX8_lesson 127 = .ok (.iload 4, 2) := by decide +kernel
theorem dX8_lesson_129 : decode cX8_lesson 129 = .ok (.iastore, 1) := by decide +kernel
theorem dX8_lesson_130 : decode cX8_lesson 130 = .ok (.aload_n 0, 1) := by decide +kernel
theorem dX8_lesson_131 : decode cX8_lesson 131 = .ok (.getfield 10, 3) := by decide +kernel
theorem dX8_lesson_134 : decode cX8_lesson 134 = .ok (.dup, 1) := by decide +kernel
theorem dX8_lesson_135 : decode cX8_lesson 135 = .ok (.getfield 269, 3) := by decide +kernel
theorem dX8_lesson_138 : decode cX8_lesson 138 = .ok (.iconst 1, 1) := by decide +kernel
theorem dX8_lesson_139 : decode cX8_lesson 139 = .ok (.iadd, 1) := by decide +kernel
theorem dX8_lesson_140 : decode cX8_lesson 140 = .ok (.putfield 269, 3) := by decide +kernel
theorem dX8_lesson_143 : decode cX8_lesson 143 = .ok (.aload_n 0, 1) := by decide +kernel
theorem dX8_lesson_144 : decode cX8_lesson 144 = .ok (.aload_n 0, 1) := by decide +kernel
theorem dX8_lesson_145 : decode cX8_lesson 145 = .ok (.getfield 10, 3) := by decide +kernel
theorem dX8_lesson_148 : decode cX8_lesson 148 = .ok (.getfield 269, 3) := by decide +kernel
theorem dX8_lesson_151 : decode cX8_lesson 151 = .ok (.iconst 1, 1) := by decide +kernel
theorem dX8_lesson_152 : decode cX8_lesson 152 = .ok (.isub, 1) := by decide +kernel
theorem dX8_lesson_153 : decode cX8_lesson 153 = .ok (.invokevirtual 99, 3) := by decide +kernel
theorem dX8_lesson_156 : decode cX8_lesson 156 = .ok (.ireturn, 1) := by decide +kernel
def bX8_lesson_0 (l : Launch) (E : Ev) (d : Nat) (Q : Option Value → Hp → Prop) : Kt := k_iload 3 (k_push (.int 1) (k_icmp_lt (Go l E YX8_lesson (d + 1) 0 0 Q 0 0 24) (k_iload 3 (k_push (.int 9) (k_icmp_gt (Go l E YX8_lesson (d + 1) 0 0 Q 0 0 24) (k_iload 4 (k_push (.int 1) (k_icmp_lt (Go l E YX8_lesson (d + 1) 0 0 Q 0 0 24) (k_iload 4 (k_push (.int 99) (k_icmp_le (k_aload 0 (k_getR 8 19 0 (k_iload 1 (k_iload 2 (k_callV l E 7 15 YX7_hasBoth d 0 0 2 (k_if_ne (k_aload 0 (k_getR 8 19 0 (k_getI 7 15 12 (k_push (.int 7) (k_icmp_lt (k_aload 0 (k_getR 8 19 0 (k_getI 7 15 12 (k_push (.int 4) (k_imul (k_istore 5 (k_aload 0 (k_getR 8 19 0 (k_getR 7 15 11 (k_iload 5 (k_iload 1 (k_iastore (k_aload 0 (k_getR 8 19 0 (k_getR 7 15 11 (k_iload 5 (k_push (.int 1) (k_iadd (k_iload 2 (k_iastore (k_aload 0 (k_getR 8 19 0 (k_getR 7 15 11 (k_iload 5 (k_push (.int 2) (k_iadd (k_iload 3 (k_iastore (k_aload 0 (k_getR 8 19 0 (k_getR 7 15 11 (k_iload 5 (k_push (.int 3) (k_iadd (k_iload 4 (k_iastore (k_aload 0 (k_getR 8 19 0 (k_dup (k_getI 7 15 12 (k_push (.int 1) (k_iadd (k_putI 7 15 12 (k_aload 0 (k_aload 0 (k_getR 8 19 0 (k_getI 7 15 12 (k_push (.int 1) (k_isub (k_callV l E 8 19 YX8_accept d 0 0 1 (k_iret .int Q))))))))))))))))))))))))))))))))))))))))))))))))))) (k_aload 0 (k_push (.int (-5)) (k_callV l E 8 19 YX8_refuse d 0 0 1 (k_iret .int Q))))))))) (k_aload 0 (k_push (.int (-2)) (k_callV l E 8 19 YX8_refuse d 0 0 1 (k_iret .int Q)))))))))) (Go l E YX8_lesson (d + 1) 0 0 Q 0 0 24))))))))))))
set_option maxRecDepth 100000 in
set_option maxHeartbeats 4000000 in
theorem gX8_lesson_0 {l : Launch} {E : Ev} {d : Nat} {Q : Option Value → Hp → Prop} {ls : Lv} {st : List Value} {h : Hp} (hB : bX8_lesson_0 l E d Q ls st h) : Go l E YX8_lesson (d + 1) 0 0 Q 0 0 0 ls st h :=
  (sd_iload_n (i := 3) rfl dX8_lesson_0 (sd_iconst (v := 1) (by decide) dX8_lesson_1 (sd_icmp_lt (tgt := 24) (by decide) dX8_lesson_2 (Sd.go) (sd_iload_n (i := 3) rfl dX8_lesson_5 (sd_bipush (v := 9) (by decide) dX8_lesson_6 (sd_icmp_gt (tgt := 24) (by decide) dX8_lesson_8 (Sd.go) (sd_iload (n := 4) dX8_lesson_11 (sd_iconst (v := 1) (by decide) dX8_lesson_13 (sd_icmp_lt (tgt := 24) (by decide) dX8_lesson_14 (Sd.go) (sd_iload (n := 4) dX8_lesson_17 (sd_bipush (v := 99) (by decide) dX8_lesson_19 (sd_icmp_le (tgt := 30) (by decide) dX8_lesson_21 (sd_aload_n (i := 0) rfl dX8_lesson_30 (sd_getR clsX8 (f := 0) (by decide) (fun _ _ _ => rfl) mw_431 dX8_lesson_31 (sd_iload_n (i := 1) rfl dX8_lesson_34 (sd_iload_n (i := 2) rfl dX8_lesson_35 (sd_callV (Y' := YX7_hasBoth) (mc' := 0) (ms' := 0) (n := 2) clsX7.1 mw_541 mw_542 mw_543 mw_101 mw_544 rfl (okmX7_hasBoth) (by decide) (Nat.le_refl _) (by decide) (by decide) dX8_lesson_36 (sd_if_ne (tgt := 49) (by decide) dX8_lesson_39 (sd_aload_n (i := 0) rfl dX8_lesson_49 (sd_getR clsX8 (f := 0) (by decide) (fun _ _ _ => rfl) mw_431 dX8_lesson_50 (sd_getI clsX7 (f := 12) (by decide) (fun _ _ _ => rfl) mw_178 dX8_lesson_53 (sd_bipush (v := 7) (by decide) dX8_lesson_56 (sd_icmp_lt (tgt := 68) (by decide) dX8_lesson_58 (sd_aload_n (i := 0) rfl dX8_lesson_68 (sd_getR clsX8 (f := 0) (by decide) (fun _ _ _ => rfl) mw_431 dX8_lesson_69 (sd_getI clsX7 (f := 12) (by decide) (fun _ _ _ => rfl) mw_178 dX8_lesson_72 (sd_iconst (v := 4) (by decide) dX8_lesson_75 (sd_imul dX8_lesson_76 (sd_istore (i := 5) (by decide) dX8_lesson_77 (sd_aload_n (i := 0) rfl dX8_lesson_79 (sd_getR clsX8 (f := 0) (by decide) (fun _ _ _ => rfl) mw_431 dX8_lesson_80 (sd_getR clsX7 (f := 11) (by decide) (fun _ _ _ => rfl) mw_175 dX8_lesson_83 (sd_iload (n := 5) dX8_lesson_86 (sd_iload_n (i := 1) rfl dX8_lesson_88 (sd_iastore dX8_lesson_89 (sd_aload_n (i := 0) rfl dX8_lesson_90 (sd_getR clsX8 (f := 0) (by decide) (fun _ _ _ => rfl) mw_431 dX8_lesson_91 (sd_getR clsX7 (f := 11) (by decide) (fun _ _ _ => rfl) mw_175 dX8_lesson_94 (sd_iload (n := 5) dX8_lesson_97 (sd_iconst (v := 1) (by decide) dX8_lesson_99 (sd_iadd dX8_lesson_100 (sd_iload_n (i := 2) rfl dX8_lesson_101 (sd_iastore dX8_lesson_102 (sd_aload_n (i := 0) rfl dX8_lesson_103 (sd_getR clsX8 (f := 0) (by decide) (fun _ _ _ => rfl) mw_431 dX8_lesson_104 (sd_getR clsX7 (f := 11) (by decide) (fun _ _ _ => rfl) mw_175 dX8_lesson_107 (sd_iload (n := 5) dX8_lesson_110 (sd_iconst (v := 2) (by decide) dX8_lesson_112 (sd_iadd dX8_lesson_113 (sd_iload_n (i := 3) rfl dX8_lesson_114 (sd_iastore dX8_lesson_115 (sd_aload_n (i := 0) rfl dX8_lesson_116 (sd_getR clsX8 (f := 0) (by decide) (fun _ _ _ => rfl) mw_431 dX8_lesson_117 (sd_getR clsX7 (f := 11) (by decide) (fun _ _ _ => rfl) mw_175 dX8_lesson_120 (sd_iload (n := 5) dX8_lesson_123 (sd_iconst (v := 3) (by decide) dX8_lesson_125 (sd_iadd dX8_lesson_126 (sd_iload (n := 4) dX8_lesson_127 (sd_iastore dX8_lesson_129 (sd_aload_n (i := 0) rfl dX8_lesson_130 (sd_getR clsX8 (f := 0) (by decide) (fun _ _ _ => rfl) mw_431 dX8_lesson_131 (sd_dup dX8_lesson_134 (sd_getI clsX7 (f := 12) (by decide) (fun _ _ _ => rfl) mw_178 dX8_lesson_135 (sd_iconst (v := 1) (by decide) dX8_lesson_138 (sd_iadd dX8_lesson_139 (sd_putI clsX7 (f := 12) (by decide) (fun _ _ _ => rfl) rfl (Or.inl rfl) mw_178 dX8_lesson_140 (sd_aload_n (i := 0) rfl dX8_lesson_143 (sd_aload_n (i := 0) rfl dX8_lesson_144 (sd_getR clsX8 (f := 0) (by decide) (fun _ _ _ => rfl) mw_431 dX8_lesson_145 (sd_getI clsX7 (f := 12) (by decide) (fun _ _ _ => rfl) mw_178 dX8_lesson_148 (sd_iconst (v := 1) (by decide) dX8_lesson_151 (sd_isub dX8_lesson_152 (sd_callV (Y' := YX8_accept) (mc' := 0) (ms' := 0) (n := 1) clsX8.1 mw_504 mw_506 mw_1 mw_100 mw_507 rfl (okmX8_accept) (by decide) (Nat.le_refl _) (by decide) (by decide) dX8_lesson_153 (sd_iret (ty := .int) rfl (by decide) (by decide) dX8_lesson_156))))))))))))))))))))))))))))))))))))))))))))))))))) (sd_aload_n (i := 0) rfl dX8_lesson_61 (sd_bipush (v := (-5)) (by decide) dX8_lesson_62 (sd_callV (Y' := YX8_refuse) (mc' := 0) (ms' := 0) (n := 1) clsX8.1 mw_500 mw_502 mw_0 mw_100 mw_503 rfl (okmX8_refuse) (by decide) (Nat.le_refl _) (by decide) (by decide) dX8_lesson_64 (sd_iret (ty := .int) rfl (by decide) (by decide) dX8_lesson_67))))))))) (sd_aload_n (i := 0) rfl dX8_lesson_42 (sd_bipush (v := (-2)) (by decide) dX8_lesson_43 (sd_callV (Y' := YX8_refuse) (mc' := 0) (ms' := 0) (n := 1) clsX8.1 mw_500 mw_502 mw_0 mw_100 mw_503 rfl (okmX8_refuse) (by decide) (Nat.le_refl _) (by decide) (by decide) dX8_lesson_45 (sd_iret (ty := .int) rfl (by decide) (by decide) dX8_lesson_48)))))))))) (Sd.go)))))))))))) : Sd l E YX8_lesson (d + 1) 0 0 Q 0 0 0 (bX8_lesson_0 l E d Q)) ls st h hB
def bX8_lesson_24 (l : Launch) (E : Ev) (d : Nat) (Q : Option Value → Hp → Prop) : Kt := k_aload 0 (k_push (.int (-1)) (k_callV l E 8 19 YX8_refuse d 0 0 1 (k_iret .int Q)))
set_option maxRecDepth 100000 in
set_option maxHeartbeats 4000000 in
theorem gX8_lesson_24 {l : Launch} {E : Ev} {d : Nat} {Q : Option Value → Hp → Prop} {ls : Lv} {st : List Value} {h : Hp} (hB : bX8_lesson_24 l E d Q ls st h) : Go l E YX8_lesson (d + 1) 0 0 Q 0 0 24 ls st h :=
  (sd_aload_n (i := 0) rfl dX8_lesson_24 (sd_iconst (v := (-1)) (by decide) dX8_lesson_25 (sd_callV (Y' := YX8_refuse) (mc' := 0) (ms' := 0) (n := 1) clsX8.1 mw_500 mw_502 mw_0 mw_100 mw_503 rfl (okmX8_refuse) (by decide) (Nat.le_refl _) (by decide) (by decide) dX8_lesson_26 (sd_iret (ty := .int) rfl (by decide) (by decide) dX8_lesson_29))) : Sd l E YX8_lesson (d + 1) 0 0 Q 0 0 24 (bX8_lesson_24 l E d Q)) ls st h hB
theorem eX8_lesson {l : Launch} {E : Ev} {d : Nat} {Q : Option Value → Hp → Prop} {h : Hp} {a0 : Nat} {x1 : Int32} {x2 : Int32} {x3 : Int32} {x4 : Int32} (hk : Go l E YX8_lesson d 0 0 Q 0 0 0 [some (.ref a0), some (.int x1), some (.int x2), some (.int x3), some (.int x4), none] [] h) : GoM l E YX8_lesson d 0 0 [.ref a0, .int x1, .int x2, .int x3, .int x4] h Q := GoM.of (by decide +kernel) rfl (by simp [entA, YX8_lesson]) hk
theorem dX8_drop_0 : decode cX8_drop 0 = .ok (.iload_n 1, 1) := by decide +kernel
theorem dX8_drop_1 : decode cX8_drop 1 = .ok (.ifCond .lt 14, 3) := by decide +kernel
theorem dX8_drop_4 : decode cX8_drop 4 = .ok (.iload_n 1, 1) := by decide +kernel
theorem dX8_drop_5 : decode cX8_drop 5 = .ok (.aload_n 0, 1) := by decide +kernel
theorem dX8_drop_6 : decode cX8_drop 6 = .ok (.getfield 10, 3) := by decide +kernel
theorem dX8_drop_9 : decode cX8_drop 9 = .ok (.getfield 269, 3) := by decide +kernel
theorem dX8_drop_12 : decode cX8_drop 12 = .ok (.if_icmp .lt 10, 3) := by decide +kernel
theorem dX8_drop_15 : decode cX8_drop 15 = .ok (.aload_n 0, 1) := by decide +kernel
theorem dX8_drop_16 : decode cX8_drop 16 = .ok (.bipush (-2), 2) := by decide +kernel
theorem dX8_drop_18 : decode cX8_drop 18 = .ok (.invokevirtual 89, 3) := by decide +kernel
theorem dX8_drop_21 : decode cX8_drop 21 = .ok (.ireturn, 1) := by decide +kernel
theorem dX8_drop_22 : decode cX8_drop 22 = .ok (.aload_n 0, 1) := by decide +kernel
theorem dX8_drop_23 : decode cX8_drop 23 = .ok (.getfield 10, 3) := by decide +kernel
theorem dX8_drop_26 : decode cX8_drop 26 = .ok (.iconst 1, 1) := by decide +kernel
theorem dX8_drop_27 : decode cX8_drop 27 = .ok (.iload_n 1, 1) := by decide +kernel
theorem dX8_drop_28 : decode cX8_drop 28 = .ok (.ishl, 1) := by decide +kernel
theorem dX8_drop_29 : decode cX8_drop 29 = .ok (.invokevirtual 275, 3) := by decide +kernel
theorem dX8_drop_32 : decode cX8_drop 32 = .ok (.aload_n 0, 1) := by decide +kernel
theorem dX8_drop_33 : decode cX8_drop 33 = .ok (.aload_n 0, 1) := by decide +kernel
theorem dX8_drop_34 : decode cX8_drop 34 = .ok (.getfield 10, 3) := by decide +kernel
theorem dX8_drop_37 : decode cX8_drop 37 = .ok (.getfield 269, 3) := by decide +kernel
theorem dX8_drop_40 : decode cX8_drop 40 = .ok (.invokevirtual 99, 3) := by decide +kernel
theorem dX8_drop_43 : decode cX8_drop 43 = .ok (.ireturn, 1) := by decide +kernel
def bX8_drop_0 (l : Launch) (E : Ev) (d : Nat) (Q : Option Value → Hp → Prop) : Kt := k_iload 1 (k_if_lt (Go l E YX8_drop (d + 1) 0 0 Q 0 0 15) (k_iload 1 (k_aload 0 (k_getR 8 19 0 (k_getI 7 15 12 (k_icmp_lt (k_aload 0 (k_getR 8 19 0 (k_push (.int 1) (k_iload 1 (k_ishl (k_callV l E 7 15 YX7_removeLessons d 0 0 1 (k_aload 0 (k_aload 0 (k_getR 8 19 0 (k_getI 7 15 12 (k_callV l E 8 19 YX8_accept d 0 0 1 (k_iret .int Q)))))))))))) (Go l E YX8_drop (d + 1) 0 0 Q 0 0 15)))))))
set_option maxRecDepth 100000 in
set_option maxHeartbeats 4000000 in
theorem gX8_drop_0 {l : Launch} {E : Ev} {d : Nat} {Q : Option Value → Hp → Prop} {ls : Lv} {st : List Value} {h : Hp} (hB : bX8_drop_0 l E d Q ls st h) : Go l E YX8_drop (d + 1) 0 0 Q 0 0 0 ls st h :=
  (sd_iload_n (i := 1) rfl dX8_drop_0 (sd_if_lt (tgt := 15) (by decide) dX8_drop_1 (Sd.go) (sd_iload_n (i := 1) rfl dX8_drop_4 (sd_aload_n (i := 0) rfl dX8_drop_5 (sd_getR clsX8 (f := 0) (by decide) (fun _ _ _ => rfl) mw_431 dX8_drop_6 (sd_getI clsX7 (f := 12) (by decide) (fun _ _ _ => rfl) mw_178 dX8_drop_9 (sd_icmp_lt (tgt := 22) (by decide) dX8_drop_12 (sd_aload_n (i := 0) rfl dX8_drop_22 (sd_getR clsX8 (f := 0) (by decide) (fun _ _ _ => rfl) mw_431 dX8_drop_23 (sd_iconst (v := 1) (by decide) dX8_drop_26 (sd_iload_n (i := 1) rfl dX8_drop_27 (sd_ishl dX8_drop_28 (sd_callV (Y' := YX7_removeLessons) (mc' := 0) (ms' := 0) (n := 1) clsX7.1 mw_1042 mw_1043 mw_1044 mw_101 mw_1045 rfl (okmX7_removeLessons) (by decide) (Nat.le_refl _) (by decide) (by decide) dX8_drop_29 (sd_aload_n (i := 0) rfl dX8_drop_32 (sd_aload_n (i := 0) rfl dX8_drop_33 (sd_getR clsX8 (f := 0) (by decide) (fun _ _ _ => rfl) mw_431 dX8_drop_34 (sd_getI clsX7 (f := 12) (by decide) (fun _ _ _ => rfl) mw_178 dX8_drop_37 (sd_callV (Y' := YX8_accept) (mc' := 0) (ms' := 0) (n := 1) clsX8.1 mw_504 mw_506 mw_1 mw_100 mw_507 rfl (okmX8_accept) (by decide) (Nat.le_refl _) (by decide) (by decide) dX8_drop_40 (sd_iret (ty := .int) rfl (by decide) (by decide) dX8_drop_43)))))))))))) (Sd.go))))))) : Sd l E YX8_drop (d + 1) 0 0 Q 0 0 0 (bX8_drop_0 l E d Q)) ls st h hB
def bX8_drop_15 (l : Launch) (E : Ev) (d : Nat) (Q : Option Value → Hp → Prop) : Kt := k_aload 0 (k_push (.int (-2)) (k_callV l E 8 19 YX8_refuse d 0 0 1 (k_iret .int Q)))
set_option maxRecDepth 100000 in
set_option maxHeartbeats 4000000 in
theorem gX8_drop_15 {l : Launch} {E : Ev} {d : Nat} {Q : Option Value → Hp → Prop} {ls : Lv} {st : List Value} {h : Hp} (hB : bX8_drop_15 l E d Q ls st h) : Go l E YX8_drop (d + 1) 0 0 Q 0 0 15 ls st h :=
  (sd_aload_n (i := 0) rfl dX8_drop_15 (sd_bipush (v := (-2)) (by decide) dX8_drop_16 (sd_callV (Y' := YX8_refuse) (mc' := 0) (ms' := 0) (n := 1) clsX8.1 mw_500 mw_502 mw_0 mw_100 mw_503 rfl (okmX8_refuse) (by decide) (Nat.le_refl _) (by decide) (by decide) dX8_drop_18 (sd_iret (ty := .int) rfl (by decide) (by decide) dX8_drop_21))) : Sd l E YX8_drop (d + 1) 0 0 Q 0 0 15 (bX8_drop_15 l E d Q)) ls st h hB
theorem eX8_drop {l : Launch} {E : Ev} {d : Nat} {Q : Option Value → Hp → Prop} {h : Hp} {a0 : Nat} {x1 : Int32} (hk : Go l E YX8_drop d 0 0 Q 0 0 0 [some (.ref a0), some (.int x1)] [] h) : GoM l E YX8_drop d 0 0 [.ref a0, .int x1] h Q := GoM.of (by decide +kernel) rfl (by simp [entA, YX8_drop]) hk
theorem dX8_learn_0 : decode cX8_learn 0 = .ok (.iload_n 1, 1) := by decide +kernel
theorem dX8_learn_1 : decode cX8_learn 1 = .ok (.ifCond .lt 8, 3) := by decide +kernel
theorem dX8_learn_4 : decode cX8_learn 4 = .ok (.iload_n 1, 1) := by decide +kernel
theorem dX8_learn_5 : decode cX8_learn 5 = .ok (.iconst 4, 1) := by decide +kernel
theorem dX8_learn_6 : decode cX8_learn 6 = .ok (.if_icmp .lt 5, 3) := by decide +kernel
theorem dX8_learn_9 : decode cX8_learn 9 = .ok (.iconst (-1), 1) := by decide +kernel
theorem dX8_learn_10 : decode cX8_learn 10 = .ok (.ireturn, 1) := by decide +kernel
theorem dX8_learn_11 : decode cX8_learn 11 = .ok (.aload_n 0, 1) := by decide +kernel
theorem dX8_learn_12 : decode cX8_learn 12 = .ok (.iload_n 1, 1) := by decide +kernel
theorem dX8_learn_13 : decode cX8_learn 13 = .ok (.invokevirtual 278, 3) := by decide +kernel
theorem dX8_learn_16 : decode cX8_learn 16 = .ok (.iload_n 2, 1) := by decide +kernel
theorem dX8_learn_17 : decode cX8_learn 17 = .ok (.tableswitch 63 0 2 #[27, 44, 54], 27) := by decide +kernel
theorem dX8_learn_44 : decode cX8_learn 44 = .ok (.aload_n 0, 1) := by decide +kernel
theorem dX8_learn_45 : decode cX8_learn 45 = .ok (.getfield 71, 3) := by decide +kernel
theorem dX8_learn_48 : decode cX8_learn 48 = .ok (.aload_n 0, 1) := by decide +kernel
theorem dX8_learn_49 : decode cX8_learn 49 = .ok (.getfield 71, 3) := by decide +kernel
theorem dX8_learn_52 : decode cX8_learn 52 = .ok (.iload_n 1, 1) := by decide +kernel
theorem dX8_learn_53 : decode cX8_learn 53 = .ok (.iconst 0, 1) := by decide +kernel
theorem dX8_learn_54 : decode cX8_learn 54 = .ok (.invokevirtual 281, 3) := by decide +kernel
theorem dX8_learn_57 : decode cX8_learn 57 = .ok (.invokevirtual 285, 3) := by decide +kernel
theorem dX8_learn_60 : decode cX8_learn 60 = .ok (.ireturn, 1) := by decide +kernel
theorem dX8_learn_61 : decode cX8_learn 61 = .ok (.aload_n 0, 1) := by decide +kernel
theorem dX8_learn_62 : decode cX8_learn 62 = .ok (.getfield 71, 3) := by decide +kernel
theorem dX8_learn_65 : decode cX8_learn 65 = .ok (.iload_n 1, 1) := by decide +kernel
theorem dX8_learn_66 : decode cX8_learn 66 = .ok (.iconst 0, 1) := by decide +kernel
theorem dX8_learn_67 : decode cX8_learn 67 = .ok (.invokevirtual 281, 3) := by decide +kernel
theorem dX8_learn_70 : decode cX8_learn 70 = .ok (.ireturn, 1) := by decide +kernel
theorem dX8_learn_71 : decode cX8_learn 71 = .ok (.aload_n 0, 1) := by decide +kernel
theorem dX8_learn_72 : decode cX8_learn 72 = .ok (.getfield 71, 3) := by decide +kernel
theorem dX8_learn_75 : decode cX8_learn 75 = .ok (.iload_n 1, 1) := by decide +kernel
theorem dX8_learn_76 : decode cX8_learn 76 = .ok (.invokevirtual 288, 3) := by decide +kernel
theorem dX8_learn_79 : decode cX8_learn 79 = .ok (.ireturn, 1) := by decide +kernel
theorem dX8_learn_80 : decode cX8_learn 80 = .ok (.iconst (-1), 1) := by decide +kernel
theorem dX8_learn_81 : decode cX8_learn 81 = .ok (.ireturn, 1) := by decide +kernel
def bX8_learn_0 (l : Launch) (E : Ev) (d : Nat) (Q : Option Value → Hp → Prop) : Kt := k_iload 1 (k_if_lt (k_push (.int (-1)) (k_iret .int Q)) (k_iload 1 (k_push (.int 4) (k_icmp_lt (k_aload 0 (k_iload 1 (k_callV l E 8 19 YX8_makePlans d 0 0 1 (k_iload 2 (k_sw [(0, (k_aload 0 (k_getR 8 19 15 (k_aload 0 (k_getR 8 19 15 (k_iload 1 (k_push (.int 0) (k_callV l E 4 5 YX4_cheapest d 0 0 2 (k_callV l E 4 5 YX4_hoursOf d 0 0 1 (k_iret .int Q)))))))))), (1, (k_aload 0 (k_getR 8 19 15 (k_iload 1 (k_push (.int 0) (k_callV l E 4 5 YX4_cheapest d 0 0 2 (k_iret .int Q))))))), (2, (k_aload 0 (k_getR 8 19 15 (k_iload 1 (k_callV l E 4 5 YX4_enoughSets d 0 0 1 (k_iret .int Q))))))] (k_push (.int (-1)) (k_iret .int Q))))))) (k_push (.int (-1)) (k_iret .int Q))))))
set_option maxRecDepth 100000 in
set_option maxHeartbeats 4000000 in
theorem gX8_learn_0 {l : Launch} {E : Ev} {d : Nat} {Q : Option Value → Hp → Prop} {ls : Lv} {st : List Value} {h : Hp} (hB : bX8_learn_0 l E d Q ls st h) : Go l E YX8_learn (d + 1) 0 0 Q 0 0 0 ls st h :=
  (sd_iload_n (i := 1) rfl dX8_learn_0 (sd_if_lt (tgt := 9) (by decide) dX8_learn_1 (sd_iconst (v := (-1)) (by decide) dX8_learn_9 (sd_iret (ty := .int) rfl (by decide) (by decide) dX8_learn_10)) (sd_iload_n (i := 1) rfl dX8_learn_4 (sd_iconst (v := 4) (by decide) dX8_learn_5 (sd_icmp_lt (tgt := 11) (by decide) dX8_learn_6 (sd_aload_n (i := 0) rfl dX8_learn_11 (sd_iload_n (i := 1) rfl dX8_learn_12 (sd_callV (Y' := YX8_makePlans) (mc' := 0) (ms' := 0) (n := 1) clsX8.1 mw_1051 mw_1053 mw_41 mw_100 mw_1054 rfl (okmX8_makePlans) (by decide) (Nat.le_refl _) (by decide) (by decide) dX8_learn_13 (sd_iload_n (i := 2) rfl dX8_learn_16 (sd_table dX8_learn_17 (dt := 80) (by decide) (sd_iconst (v := (-1)) (by decide) dX8_learn_80 (sd_iret (ty := .int) rfl (by decide) (by decide) dX8_learn_81)) rfl (tb_all (tb_cons (off := 27) (tgt := 44) (by decide) rfl (by decide) (sd_aload_n (i := 0) rfl dX8_learn_44 (sd_getR clsX8 (f := 15) (by decide) (fun _ _ _ => rfl) mw_446 dX8_learn_45 (sd_aload_n (i := 0) rfl dX8_learn_48 (sd_getR clsX8 (f := 15) (by decide) (fun _ _ _ => rfl) mw_446 dX8_learn_49 (sd_iload_n (i := 1) rfl dX8_learn_52 (sd_iconst (v := 0) (by decide) dX8_learn_53 (sd_callV (Y' := YX4_cheapest) (mc' := 0) (ms' := 0) (n := 2) clsX4.1 mw_1078 mw_1079 mw_1080 mw_106 mw_1081 rfl (okmX4_cheapest) (by decide) (Nat.le_refl _) (by decide) (by decide) dX8_learn_54 (sd_callV (Y' := YX4_hoursOf) (mc' := 0) (ms' := 0) (n := 1) clsX4.1 mw_1082 mw_1083 mw_1084 mw_106 mw_1085 rfl (okmX4_hoursOf) (by decide) (Nat.le_refl _) (by decide) (by decide) dX8_learn_57 (sd_iret (ty := .int) rfl (by decide) (by decide) dX8_learn_60))))))))) (tb_cons (off := 44) (tgt := 61) (by decide) rfl (by decide) (sd_aload_n (i := 0) rfl dX8_learn_61 (sd_getR clsX8 (f := 15) (by decide) (fun _ _ _ => rfl) mw_446 dX8_learn_62 (sd_iload_n (i := 1) rfl dX8_learn_65 (sd_iconst (v := 0) (by decide) dX8_learn_66 (sd_callV (Y' := YX4_cheapest) (mc' := 0) (ms' := 0) (n := 2) clsX4.1 mw_1078 mw_1079 mw_1080 mw_106 mw_1081 rfl (okmX4_cheapest) (by decide) (Nat.le_refl _) (by decide) (by decide) dX8_learn_67 (sd_iret (ty := .int) rfl (by decide) (by decide) dX8_learn_70)))))) (tb_cons (off := 54) (tgt := 71) (by decide) rfl (by decide) (sd_aload_n (i := 0) rfl dX8_learn_71 (sd_getR clsX8 (f := 15) (by decide) (fun _ _ _ => rfl) mw_446 dX8_learn_72 (sd_iload_n (i := 1) rfl dX8_learn_75 (sd_callV (Y' := YX4_enoughSets) (mc' := 0) (ms' := 0) (n := 1) clsX4.1 mw_1086 mw_1087 mw_1088 mw_106 mw_1089 rfl (okmX4_enoughSets) (by decide) (Nat.le_refl _) (by decide) (by decide) dX8_learn_76 (sd_iret (ty := .int) rfl (by decide) (by decide) dX8_learn_79))))) (tb_nil)))))))))) (sd_iconst (v := (-1)) (by decide) dX8_learn_9 (sd_iret (ty := .int) rfl (by decide) (by decide) dX8_learn_10)))))) : Sd l E YX8_learn (d + 1) 0 0 Q 0 0 0 (bX8_learn_0 l E d Q)) ls st h hB
theorem eX8_learn {l : Launch} {E : Ev} {d : Nat} {Q : Option Value → Hp → Prop} {h : Hp} {a0 : Nat} {x1 : Int32} {x2 : Int32} (hk : Go l E YX8_learn d 0 0 Q 0 0 0 [some (.ref a0), some (.int x1), some (.int x2)] [] h) : GoM l E YX8_learn d 0 0 [.ref a0, .int x1, .int x2] h Q := GoM.of (by decide +kernel) rfl (by simp [entA, YX8_learn]) hk
theorem dX8_worth_0 : decode cX8_worth 0 = .ok (.iload_n 1, 1) := by decide +kernel
theorem dX8_worth_1 : decode cX8_worth 1 = .ok (.ifCond .lt 23, 3) := by decide +kernel
theorem dX8_worth_4 : decode cX8_worth 4 = .ok (.iload_n 1, 1) := by decide +kernel
theorem dX8_worth_5 : decode cX8_worth 5 = .ok (.iconst 4, 1) := by decide +kernel
theorem dX8_worth_6 : decode cX8_worth 6 = .ok (.if_icmp .ge 18, 3) := by decide +kernel
theorem dX8_worth_9 : decode cX8_worth 9 = .ok (.iload_n 2, 1) := by decide +kernel
theorem dX8_worth_10 : decode cX8_worth 10 = .ok (.ifCond .lt 14, 3) := by decide +kernel
theorem dX8_worth_13 : decode cX8_worth 13 = .ok (.iload_n 2, 1) := by decide +kernel
theorem dX8_worth_14 : decode cX8_worth 14 = .ok (.aload_n 0, 1) := by decide +kernel
theorem dX8_worth_15 : decode cX8_worth 15 = .ok (.getfield 10, 3) := by decide +kernel
theorem dX8_worth_18 : decode cX8_worth 18 = .ok (.getfield 269, 3) := by decide +kernel
theorem dX8_worth_21 : decode cX8_worth 21 = .ok (.if_icmp .lt 5, 3) := by decide +kernel
theorem dX8_worth_24 : decode cX8_worth 24 = .ok (.iconst (-1), 1) := by decide +kernel
theorem dX8_worth_25 : decode cX8_worth 25 = .ok (.ireturn, 1) := by decide +kernel
theorem dX8_worth_26 : decode cX8_worth 26 = .ok (.aload_n 0, 1) := by decide +kernel
theorem dX8_worth_27 : decode cX8_worth 27 = .ok (.iload_n 1, 1) := by decide +kernel
theorem dX8_worth_28 : decode cX8_worth 28 = .ok (.invokevirtual 278, 3) := by decide +kernel
theorem dX8_worth_31 : decode cX8_worth 31 = .ok (.aload_n 0, 1) := by decide +kernel
theorem dX8_worth_32 : decode cX8_worth 32 = .ok (.getfield 71, 3) := by decide +kernel
theorem dX8_worth_35 : decode cX8_worth 35 = .ok (.iload_n 1, 1) := by decide +kernel
theorem dX8_worth_36 : decode cX8_worth 36 = .ok (.iconst 0, 1) := by decide +kernel
theorem dX8_worth_37 : decode cX8_worth 37 = .ok (.invokevirtual 281, 3) := by decide +kernel
theorem dX8_worth_40 : decode cX8_worth 40 = .ok (.istore_n 3, 1) := by decide +kernel
theorem dX8_worth_41 : decode cX8_worth 41 = .ok (.iload_n 3, 1) := by decide +kernel
theorem dX8_worth_42 : decode cX8_worth 42 = .ok (.iconst (-1), 1) := by decide +kernel
theorem dX8_worth_43 : decode cX8_worth 43 = .ok (.if_icmp .ne 5, 3) := by decide +kernel
theorem dX8_worth_46 : decode cX8_worth 46 = .ok (.iconst (-1), 1) := by decide +kernel
theorem dX8_worth_47 : decode cX8_worth 47 = .ok (.ireturn, 1) := by decide +kernel
theorem dX8_worth_48 : decode cX8_worth 48 = .ok (.aload_n 0, 1) := by decide +kernel
theorem dX8_worth_49 : decode cX8_worth 49 = .ok (.getfield 71, 3) := by decide +kernel
theorem dX8_worth_52 : decode cX8_worth 52 = .ok (.iload_n 1, 1) := by decide +kernel
theorem dX8_worth_53 : decode cX8_worth 53 = .ok (.iconst 1, 1) := by decide +kernel
theorem dX8_worth_54 : decode cX8_worth 54 = .ok (.iload_n 2, 1) := by decide +kernel
theorem dX8_worth_55 : decode cX8_worth 55 = .ok (.ishl, 1) := by decide +kernel
theorem dX8_worth_56 : decode cX8_worth 56 = .ok (.invokevirtual 281, 3) := by decide +kernel
theorem dX8_worth_59 : decode cX8_worth 59 = .ok (.istore 4, 2) := by decide +kernel
theorem dX8_worth_61 : decode cX8_worth 61 = .ok (.iload 4, 2) := by decide +kernel
theorem dX8_worth_63 : decode cX8_worth 63 = .ok (.iconst (-1), 1) := by decide +kernel
theorem dX8_worth_64 : decode cX8_worth 64 = .ok (.if_icmp .ne 9, 3) := by decide +kernel
theorem dX8_worth_67 : decode cX8_worth 67 = .ok (.sipush 1000, 3) := by decide +kernel
theorem dX8_worth_70 : decode cX8_worth 70 = .ok (.goto 21, 3) := by decide +kernel
theorem dX8_worth_73 : decode cX8_worth 73 = .ok (.aload_n 0, 1) := by decide +kernel
theorem dX8_worth_74 : decode cX8_worth 74 = .ok (.getfield 71, 3) := by decide +kernel
theorem dX8_worth_77 : decode cX8_worth 77 = .ok (.iload 4, 2) := by decide +kernel
theorem dX8_worth_79 : decode cX8_worth 79 = .ok (.invokevirtual 285, 3) := by decide +kernel
theorem dX8_worth_82 : decode cX8_worth 82 = .ok (.aload_n 0, 1) := by decide +kernel
theorem dX8_worth_83 : decode cX8_worth 83 = .ok (.getfield 71, 3) := by decide +kernel
theorem dX8_worth_86 : decode cX8_worth 86 = .ok (.iload_n 3, 1) := by decide +kernel
theorem dX8_worth_87 : decode cX8_worth 87 = .ok (.invokevirtual 285, 3) := by decide +kernel
theorem dX8_worth_90 : decode cX8_worth 90 = .ok (.isub, 1) := by decide +kernel
theorem dX8_worth_91 : decode cX8_worth 91 = .ok (.ireturn, 1) := by decide +kernel
def bX8_worth_0 (l : Launch) (E : Ev) (d : Nat) (Q : Option Value → Hp → Prop) : Kt := k_iload 1 (k_if_lt (k_push (.int (-1)) (k_iret .int Q)) (k_iload 1 (k_push (.int 4) (k_icmp_ge (k_push (.int (-1)) (k_iret .int Q)) (k_iload 2 (k_if_lt (k_push (.int (-1)) (k_iret .int Q)) (k_iload 2 (k_aload 0 (k_getR 8 19 0 (k_getI 7 15 12 (k_icmp_lt (k_aload 0 (k_iload 1 (k_callV l E 8 19 YX8_makePlans d 0 0 1 (k_aload 0 (k_getR 8 19 15 (k_iload 1 (k_push (.int 0) (k_callV l E 4 5 YX4_cheapest d 0 0 2 (k_istore 3 (k_iload 3 (k_push (.int (-1)) (k_icmp_ne (k_aload 0 (k_getR 8 19 15 (k_iload 1 (k_push (.int 1) (k_iload 2 (k_ishl (k_callV l E 4 5 YX4_cheapest d 0 0 2 (k_istore 4 (k_iload 4 (k_push (.int (-1)) (k_icmp_ne (k_aload 0 (k_getR 8 19 15 (k_iload 4 (k_callV l E 4 5 YX4_hoursOf d 0 0 1 (k_aload 0 (k_getR 8 19 15 (k_iload 3 (k_callV l E 4 5 YX4_hoursOf d 0 0 1 (k_isub (k_iret .int Q)))))))))) (k_push (.int 1000) (k_iret .int Q))))))))))))) (k_push (.int (-1)) (k_iret .int Q)))))))))))))) (k_push (.int (-1)) (k_iret .int Q)))))))))))))
set_option maxRecDepth 100000 in
set_option maxHeartbeats 4000000 in
theorem gX8_worth_0 {l : Launch} {E : Ev} {d : Nat} {Q : Option Value → Hp → Prop} {ls : Lv} {st : List Value} {h : Hp} (hB : bX8_worth_0 l E d Q ls st h) : Go l E YX8_worth (d + 1) 0 0 Q 0 0 0 ls st h :=
  (sd_iload_n (i := 1) rfl dX8_worth_0 (sd_if_lt (tgt := 24) (by decide) dX8_worth_1 (sd_iconst (v := (-1)) (by decide) dX8_worth_24 (sd_iret (ty := .int) rfl (by decide) (by decide) dX8_worth_25)) (sd_iload_n (i := 1) rfl dX8_worth_4 (sd_iconst (v := 4) (by decide) dX8_worth_5 (sd_icmp_ge (tgt := 24) (by decide) dX8_worth_6 (sd_iconst (v := (-1)) (by decide) dX8_worth_24 (sd_iret (ty := .int) rfl (by decide) (by decide) dX8_worth_25)) (sd_iload_n (i := 2) rfl dX8_worth_9 (sd_if_lt (tgt := 24) (by decide) dX8_worth_10 (sd_iconst (v := (-1)) (by decide) dX8_worth_24 (sd_iret (ty := .int) rfl (by decide) (by decide) dX8_worth_25)) (sd_iload_n (i := 2) rfl dX8_worth_13 (sd_aload_n (i := 0) rfl dX8_worth_14 (sd_getR clsX8 (f := 0) (by decide) (fun _ _ _ => rfl) mw_431 dX8_worth_15 (sd_getI clsX7 (f := 12) (by decide) (fun _ _ _ => rfl) mw_178 dX8_worth_18 (sd_icmp_lt (tgt := 26) (by decide) dX8_worth_21 (sd_aload_n (i := 0) rfl dX8_worth_26 (sd_iload_n (i := 1) rfl dX8_worth_27 (sd_callV (Y' := YX8_makePlans) (mc' := 0) (ms' := 0) (n := 1) clsX8.1 mw_1051 mw_1053 mw_41 mw_100 mw_1054 rfl (okmX8_makePlans) (by decide) (Nat.le_refl _) (by decide) (by decide) dX8_worth_28 (sd_aload_n (i := 0) rfl dX8_worth_31 (sd_getR clsX8 (f := 15) (by decide) (fun _ _ _ => rfl) mw_446 dX8_worth_32 (sd_iload_n (i := 1) rfl dX8_worth_35 (sd_iconst (v := 0) (by decide) dX8_worth_36 (sd_callV (Y' := YX4_cheapest) (mc' := 0) (ms' := 0) (n := 2) clsX4.1 mw_1078 mw_1079 mw_1080 mw_106 mw_1081 rfl (okmX4_cheapest) (by decide) (Nat.le_refl _) (by decide) (by decide) dX8_worth_37 (sd_istore_n (i := 3) rfl (by decide) dX8_worth_40 (sd_iload_n (i := 3) rfl dX8_worth_41 (sd_iconst (v := (-1)) (by decide) dX8_worth_42 (sd_icmp_ne (tgt := 48) (by decide) dX8_worth_43 (sd_aload_n (i := 0) rfl dX8_worth_48 (sd_getR clsX8 (f := 15) (by decide) (fun _ _ _ => rfl) mw_446 dX8_worth_49 (sd_iload_n (i := 1) rfl dX8_worth_52 (sd_iconst (v := 1) (by decide) dX8_worth_53 (sd_iload_n (i := 2) rfl dX8_worth_54 (sd_ishl dX8_worth_55 (sd_callV (Y' := YX4_cheapest) (mc' := 0) (ms' := 0) (n := 2) clsX4.1 mw_1078 mw_1079 mw_1080 mw_106 mw_1081 rfl (okmX4_cheapest) (by decide) (Nat.le_refl _) (by decide) (by decide) dX8_worth_56 (sd_istore (i := 4) (by decide) dX8_worth_59 (sd_iload (n := 4) dX8_worth_61 (sd_iconst (v := (-1)) (by decide) dX8_worth_63 (sd_icmp_ne (tgt := 73) (by decide) dX8_worth_64 (sd_aload_n (i := 0) rfl dX8_worth_73 (sd_getR clsX8 (f := 15) (by decide) (fun _ _ _ => rfl) mw_446 dX8_worth_74 (sd_iload (n := 4) dX8_worth_77 (sd_callV (Y' := YX4_hoursOf) (mc' := 0) (ms' := 0) (n := 1) clsX4.1 mw_1082 mw_1083 mw_1084 mw_106 mw_1085 rfl (okmX4_hoursOf) (by decide) (Nat.le_refl _) (by decide) (by decide) dX8_worth_79 (sd_aload_n (i := 0) rfl dX8_worth_82 (sd_getR clsX8 (f := 15) (by decide) (fun _ _ _ => rfl) mw_446 dX8_worth_83 (sd_iload_n (i := 3) rfl dX8_worth_86 (sd_callV (Y' := YX4_hoursOf) (mc' := 0) (ms' := 0) (n := 1) clsX4.1 mw_1082 mw_1083 mw_1084 mw_106 mw_1085 rfl (okmX4_hoursOf) (by decide) (Nat.le_refl _) (by decide) (by decide) dX8_worth_87 (sd_isub dX8_worth_90 (sd_iret (ty := .int) rfl (by decide) (by decide) dX8_worth_91)))))))))) (sd_sipush (v := 1000) (by decide) dX8_worth_67 (sd_goto (tgt := 91) (by decide) dX8_worth_70 (sd_iret (ty := .int) rfl (by decide) (by decide) dX8_worth_91)))))))))))))) (sd_iconst (v := (-1)) (by decide) dX8_worth_46 (sd_iret (ty := .int) rfl (by decide) (by decide) dX8_worth_47)))))))))))))) (sd_iconst (v := (-1)) (by decide) dX8_worth_24 (sd_iret (ty := .int) rfl (by decide) (by decide) dX8_worth_25))))))))))))) : Sd l E YX8_worth (d + 1) 0 0 Q 0 0 0 (bX8_worth_0 l E d Q)) ls st h hB
theorem eX8_worth {l : Launch} {E : Ev} {d : Nat} {Q : Option Value → Hp → Prop} {h : Hp} {a0 : Nat} {x1 : Int32} {x2 : Int32} (hk : Go l E YX8_worth d 0 0 Q 0 0 0 [some (.ref a0), some (.int x1), some (.int x2), none, none] [] h) : GoM l E YX8_worth d 0 0 [.ref a0, .int x1, .int x2] h Q := GoM.of (by decide +kernel) rfl (by simp [entA, YX8_worth]) hk
theorem dX8_teach_0 : decode cX8_teach 0 = .ok (.iload_n 1, 1) := by decide +kernel
theorem dX8_teach_1 : decode cX8_teach 1 = .ok (.aload_n 0, 1) := by decide +kernel
theorem dX8_teach_2 : decode cX8_teach 2 = .ok (.getfield 10, 3) := by decide +kernel
theorem dX8_teach_5 : decode cX8_teach 5 = .ok (.getfield 269, 3) := by decide +kernel
theorem dX8_teach_8 : decode cX8_teach 8 = .ok (.invokestatic 145, 3) := by decide +kernel
theorem dX8_teach_11 : decode cX8_teach 11 = .ok (.ifCond .ne 9, 3) := by decide +kernel
theorem dX8_teach_14 : decode cX8_teach 14 = .ok (.aload_n 0, 1) := by decide +kernel
theorem dX8_teach_15 : decode cX8_teach 15 = .ok (.iconst (-1), 1) := by decide +kernel
theorem dX8_teach_16 : decode cX8_teach 16 = .ok (.invokevirtual 89, 3) := by decide +kernel
theorem dX8_teach_19 : decode cX8_teach 19 = .ok (.ireturn, 1) := by decide +kernel
theorem dX8_teach_20 : decode cX8_teach 20 = .ok (.aload_n 0, 1) := by decide +kernel
theorem dX8_teach_21 : decode cX8_teach 21 = .ok (.getfield 10, 3) := by decide +kernel
theorem dX8_teach_24 : decode cX8_teach 24 = .ok (.aload_n 0, 1) := by decide +kernel
theorem dX8_teach_25 : decode cX8_teach 25 = .ok (.getfield 10, 3) := by decide +kernel
theorem dX8_teach_28 : decode cX8_teach 28 = .ok (.getfield 124, 3) := by decide +kernel
theorem dX8_teach_31 : decode cX8_teach 31 = .ok (.iload_n 1, 1) := by decide +kernel
theorem dX8_teach_32 : decode cX8_teach 32 = .ok (.invokevirtual 291, 3) := by decide +kernel
theorem dX8_teach_35 : decode cX8_teach 35 = .ok (.istore_n 2, 1) := by decide +kernel
theorem dX8_teach_36 : decode cX8_teach 36 = .ok (.aload_n 0, 1) := by decide +kernel
theorem dX8_teach_37 : decode cX8_teach 37 = .ok (.getfield 10, 3) := by decide +kernel
theorem dX8_teach_40 : decode cX8_teach 40 = .ok (.iload_n 1, 1) := by decide +kernel
theorem dX8_teach_41 : decode cX8_teach 41 = .ok (.invokevirtual 275, 3) := by decide +kernel
theorem dX8_teach_44 : decode cX8_teach 44 = .ok (.aload_n 0, 1) := by decide +kernel
theorem dX8_teach_45 : decode cX8_teach 45 = .ok (.iload_n 2, 1) := by decide +kernel
theorem dX8_teach_46 : decode cX8_teach 46 = .ok (.invokevirtual 99, 3) := by decide +kernel
theorem dX8_teach_49 : decode cX8_teach 49 = .ok (.ireturn, 1) := by decide +kernel
def bX8_teach_0 (l : Launch) (E : Ev) (d : Nat) (Q : Option Value → Hp → Prop) : Kt := k_iload 1 (k_aload 0 (k_getR 8 19 0 (k_getI 7 15 12 (k_callS l E YX8_within d 0 0 2 (k_if_ne (k_aload 0 (k_getR 8 19 0 (k_aload 0 (k_getR 8 19 0 (k_getR 7 15 5 (k_iload 1 (k_callV l E 7 15 YX7_raise d 0 0 2 (k_istore 2 (k_aload 0 (k_getR 8 19 0 (k_iload 1 (k_callV l E 7 15 YX7_removeLessons d 0 0 1 (k_aload 0 (k_iload 2 (k_callV l E 8 19 YX8_accept d 0 0 1 (k_iret .int Q)))))))))))))))) (k_aload 0 (k_push (.int (-1)) (k_callV l E 8 19 YX8_refuse d 0 0 1 (k_iret .int Q)))))))))
set_option maxRecDepth 100000 in
set_option maxHeartbeats 4000000 in
theorem gX8_teach_0 {l : Launch} {E : Ev} {d : Nat} {Q : Option Value → Hp → Prop} {ls : Lv} {st : List Value} {h : Hp} (hB : bX8_teach_0 l E d Q ls st h) : Go l E YX8_teach (d + 1) 0 0 Q 0 0 0 ls st h :=
  (sd_iload_n (i := 1) rfl dX8_teach_0 (sd_aload_n (i := 0) rfl dX8_teach_1 (sd_getR clsX8 (f := 0) (by decide) (fun _ _ _ => rfl) mw_431 dX8_teach_2 (sd_getI clsX7 (f := 12) (by decide) (fun _ _ _ => rfl) mw_178 dX8_teach_5 (sd_callS (Y' := YX8_within) (mc' := 0) (ms' := 0) (n := 2) mw_598 mw_599 mw_100 mw_600 (okmX8_within) (by decide) (Nat.le_refl _) (by decide) (by decide) dX8_teach_8 (sd_if_ne (tgt := 20) (by decide) dX8_teach_11 (sd_aload_n (i := 0) rfl dX8_teach_20 (sd_getR clsX8 (f := 0) (by decide) (fun _ _ _ => rfl) mw_431 dX8_teach_21 (sd_aload_n (i := 0) rfl dX8_teach_24 (sd_getR clsX8 (f := 0) (by decide) (fun _ _ _ => rfl) mw_431 dX8_teach_25 (sd_getR clsX7 (f := 5) (by decide) (fun _ _ _ => rfl) mw_159 dX8_teach_28 (sd_iload_n (i := 1) rfl dX8_teach_31 (sd_callV (Y' := YX7_raise) (mc' := 0) (ms' := 0) (n := 2) clsX7.1 mw_1098 mw_1065 mw_1066 mw_101 mw_1067 rfl (okmX7_raise) (by decide) (Nat.le_refl _) (by decide) (by decide) dX8_teach_32 (sd_istore_n (i := 2) rfl (by decide) dX8_teach_35 (sd_aload_n (i := 0) rfl dX8_teach_36 (sd_getR clsX8 (f := 0) (by decide) (fun _ _ _ => rfl) mw_431 dX8_teach_37 (sd_iload_n (i := 1) rfl dX8_teach_40 (sd_callV (Y' := YX7_removeLessons) (mc' := 0) (ms' := 0) (n := 1) clsX7.1 mw_1042 mw_1043 mw_1044 mw_101 mw_1045 rfl (okmX7_removeLessons) (by decide) (Nat.le_refl _) (by decide) (by decide) dX8_teach_41 (sd_aload_n (i := 0) rfl dX8_teach_44 (sd_iload_n (i := 2) rfl dX8_teach_45 (sd_callV (Y' := YX8_accept) (mc' := 0) (ms' := 0) (n := 1) clsX8.1 mw_504 mw_506 mw_1 mw_100 mw_507 rfl (okmX8_accept) (by decide) (Nat.le_refl _) (by decide) (by decide) dX8_teach_46 (sd_iret (ty := .int) rfl (by decide) (by decide) dX8_teach_49)))))))))))))))) (sd_aload_n (i := 0) rfl dX8_teach_14 (sd_iconst (v := (-1)) (by decide) dX8_teach_15 (sd_callV (Y' := YX8_refuse) (mc' := 0) (ms' := 0) (n := 1) clsX8.1 mw_500 mw_502 mw_0 mw_100 mw_503 rfl (okmX8_refuse) (by decide) (Nat.le_refl _) (by decide) (by decide) dX8_teach_16 (sd_iret (ty := .int) rfl (by decide) (by decide) dX8_teach_19))))))))) : Sd l E YX8_teach (d + 1) 0 0 Q 0 0 0 (bX8_teach_0 l E d Q)) ls st h hB
theorem eX8_teach {l : Launch} {E : Ev} {d : Nat} {Q : Option Value → Hp → Prop} {h : Hp} {a0 : Nat} {x1 : Int32} (hk : Go l E YX8_teach d 0 0 Q 0 0 0 [some (.ref a0), some (.int x1), none] [] h) : GoM l E YX8_teach d 0 0 [.ref a0, .int x1] h Q := GoM.of (by decide +kernel) rfl (by simp [entA, YX8_teach]) hk
theorem dX8_season_0 : decode cX8_season 0 = .ok (.iload_n 1, 1) := by decide +kernel
theorem dX8_season_1 : decode cX8_season 1 = .ok (.ifCond .lt 21, 3) := by decide +kernel
theorem dX8_season_4 : decode cX8_season 4 = .ok (.iload_n 1, 1) := by decide +kernel
theorem dX8_season_5 : decode cX8_season 5 = .ok (.ldc_w 295, 3) := by decide +kernel
theorem dX8_season_8 : decode cX8_season 8 = .ok (.if_icmp .gt 14, 3) := by decide +kernel
theorem dX8_season_11 : decode cX8_season 11 = .ok (.iload_n 2, 1) := by decide +kernel
theorem dX8_season_12 : decode cX8_season 12 = .ok (.iconst 1, 1) := by decide +kernel
theorem dX8_season_13 : decode cX8_season 13 = .ok (.if_icmp .lt 9, 3) := by decide +kernel
theorem dX8_season_16 : decode cX8_season 16 = .ok (.iload_n 2, 1) := by decide +kernel
theorem dX8_season_17 : decode cX8_season 17 = .ok (.bipush 40, 2) := by decide +kernel
theorem dX8_season_19 : decode cX8_season 19 = .ok (.if_icmp .le 9, 3) := by decide +kernel
theorem dX8_season_22 : decode cX8_season 22 = .ok (.aload_n 0, 1) := by decide +kernel
theorem dX8_season_23 : decode cX8_season 23 = .ok (.iconst (-1), 1) := by decide +kernel
theorem dX8_season_24 : decode cX8_season 24 = .ok (.invokevirtual 89, 3) := by decide +kernel
theorem dX8_season_27 : decode cX8_season 27 = .ok (.ireturn, 1) := by decide +kernel
theorem dX8_season_28 : decode cX8_season 28 = .ok (.aload_n 0, 1) := by decide +kernel
theorem dX8_season_29 : decode cX8_season 29 = .ok (.aload_n 0, 1) := by decide +kernel
theorem dX8_season_30 : decode cX8_season 30 = .ok (.getfield 78, 3) := by decide +kernel
theorem dX8_season_33 : decode cX8_season 33 = .ok (.aload_n 0, 1) := by decide +kernel
theorem dX8_season_34 : decode cX8_season 34 = .ok (.getfield 10, 3) := by decide +kernel
theorem dX8_season_37 : decode cX8_season 37 = .ok (.iload_n 1, 1) := by decide +kernel
theorem dX8_season_38 : decode cX8_season 38 = .ok (.iload_n 2, 1) := by decide +kernel
theorem dX8_season_39 : decode cX8_season 39 = .ok (.aload_n 0, 1) := by decide +kernel
theorem dX8_season_40 : decode cX8_season 40 = .ok (.getfield 49, 3) := by decide +kernel
theorem dX8_season_43 : decode cX8_season 43 = .ok (.aload_n 0, 1) := by decide +kernel
theorem dX8_season_44 : decode cX8_season 44 = .ok (.getfield 57, 3) := by decide +kernel
theorem dX8_season_47 : decode cX8_season 47 = .ok (.invokevirtual 296, 3) := by decide +kernel
theorem dX8_season_50 : decode cX8_season 50 = .ok (.invokevirtual 99, 3) := by decide +kernel
theorem dX8_season_53 : decode cX8_season 53 = .ok (.ireturn, 1) := by decide +kernel
def bX8_season_0 (l : Launch) (E : Ev) (d : Nat) (Q : Option Value → Hp → Prop) : Kt := k_iload 1 (k_if_lt (Go l E YX8_season (d + 1) 0 0 Q 0 0 22) (k_iload 1 (k_push (.int 1000000) (k_icmp_gt (Go l E YX8_season (d + 1) 0 0 Q 0 0 22) (k_iload 2 (k_push (.int 1) (k_icmp_lt (Go l E YX8_season (d + 1) 0 0 Q 0 0 22) (k_iload 2 (k_push (.int 40) (k_icmp_le (k_aload 0 (k_aload 0 (k_getR 8 19 16 (k_aload 0 (k_getR 8 19 0 (k_iload 1 (k_iload 2 (k_aload 0 (k_getR 8 19 12 (k_aload 0 (k_getR 8 19 13 (k_callV l E 6 7 YX6_play d 0 0 5 (k_callV l E 8 19 YX8_accept d 0 0 1 (k_iret .int Q)))))))))))))) (Go l E YX8_season (d + 1) 0 0 Q 0 0 22)))))))))))
set_option maxRecDepth 100000 in
set_option maxHeartbeats 4000000 in
theorem gX8_season_0 {l : Launch} {E : Ev} {d : Nat} {Q : Option Value → Hp → Prop} {ls : Lv} {st : List Value} {h : Hp} (hB : bX8_season_0 l E d Q ls st h) : Go l E YX8_season (d + 1) 0 0 Q 0 0 0 ls st h :=
  (sd_iload_n (i := 1) rfl dX8_season_0 (sd_if_lt (tgt := 22) (by decide) dX8_season_1 (Sd.go) (sd_iload_n (i := 1) rfl dX8_season_4 (sd_ldcw (v := 1000000) mw_1103 dX8_season_5 (sd_icmp_gt (tgt := 22) (by decide) dX8_season_8 (Sd.go) (sd_iload_n (i := 2) rfl dX8_season_11 (sd_iconst (v := 1) (by decide) dX8_season_12 (sd_icmp_lt (tgt := 22) (by decide) dX8_season_13 (Sd.go) (sd_iload_n (i := 2) rfl dX8_season_16 (sd_bipush (v := 40) (by decide) dX8_season_17 (sd_icmp_le (tgt := 28) (by decide) dX8_season_19 (sd_aload_n (i := 0) rfl dX8_season_28 (sd_aload_n (i := 0) rfl dX8_season_29 (sd_getR clsX8 (f := 16) (by decide) (fun _ _ _ => rfl) mw_447 dX8_season_30 (sd_aload_n (i := 0) rfl dX8_season_33 (sd_getR clsX8 (f := 0) (by decide) (fun _ _ _ => rfl) mw_431 dX8_season_34 (sd_iload_n (i := 1) rfl dX8_season_37 (sd_iload_n (i := 2) rfl dX8_season_38 (sd_aload_n (i := 0) rfl dX8_season_39 (sd_getR clsX8 (f := 12) (by decide) (fun _ _ _ => rfl) mw_443 dX8_season_40 (sd_aload_n (i := 0) rfl dX8_season_43 (sd_getR clsX8 (f := 13) (by decide) (fun _ _ _ => rfl) mw_444 dX8_season_44 (sd_callV (Y' := YX6_play) (mc' := 0) (ms' := 0) (n := 5) clsX6.1 mw_1104 mw_1105 mw_1106 mw_107 mw_1107 rfl (okmX6_play) (by decide) (Nat.le_refl _) (by decide) (by decide) dX8_season_47 (sd_callV (Y' := YX8_accept) (mc' := 0) (ms' := 0) (n := 1) clsX8.1 mw_504 mw_506 mw_1 mw_100 mw_507 rfl (okmX8_accept) (by decide) (Nat.le_refl _) (by decide) (by decide) dX8_season_50 (sd_iret (ty := .int) rfl (by decide) (by decide) dX8_season_53)))))))))))))) (Sd.go))))))))))) : Sd l E YX8_season (d + 1) 0 0 Q 0 0 0 (bX8_season_0 l E d Q)) ls st h hB
def bX8_season_22 (l : Launch) (E : Ev) (d : Nat) (Q : Option Value → Hp → Prop) : Kt := k_aload 0 (k_push (.int (-1)) (k_callV l E 8 19 YX8_refuse d 0 0 1 (k_iret .int Q)))
set_option maxRecDepth 100000 in
set_option maxHeartbeats 4000000 in
theorem gX8_season_22 {l : Launch} {E : Ev} {d : Nat} {Q : Option Value → Hp → Prop} {ls : Lv} {st : List Value} {h : Hp} (hB : bX8_season_22 l E d Q ls st h) : Go l E YX8_season (d + 1) 0 0 Q 0 0 22 ls st h :=
  (sd_aload_n (i := 0) rfl dX8_season_22 (sd_iconst (v := (-1)) (by decide) dX8_season_23 (sd_callV (Y' := YX8_refuse) (mc' := 0) (ms' := 0) (n := 1) clsX8.1 mw_500 mw_502 mw_0 mw_100 mw_503 rfl (okmX8_refuse) (by decide) (Nat.le_refl _) (by decide) (by decide) dX8_season_24 (sd_iret (ty := .int) rfl (by decide) (by decide) dX8_season_27))) : Sd l E YX8_season (d + 1) 0 0 Q 0 0 22 (bX8_season_22 l E d Q)) ls st h hB
theorem eX8_season {l : Launch} {E : Ev} {d : Nat} {Q : Option Value → Hp → Prop} {h : Hp} {a0 : Nat} {x1 : Int32} {x2 : Int32} (hk : Go l E YX8_season d 0 0 Q 0 0 0 [some (.ref a0), some (.int x1), some (.int x2)] [] h) : GoM l E YX8_season d 0 0 [.ref a0, .int x1, .int x2] h Q := GoM.of (by decide +kernel) rfl (by simp [entA, YX8_season]) hk
