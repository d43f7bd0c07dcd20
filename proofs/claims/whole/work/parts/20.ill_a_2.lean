theorem dX8_week_0 : decode cX8_week 0 = .ok (.iload_n 1, 1) := by decide +kernel
theorem dX8_week_1 : decode cX8_week 1 = .ok (.ifCond .lt 14, 3) := by decide +kernel
theorem dX8_week_4 : decode cX8_week 4 = .ok (.iload_n 1, 1) := by decide +kernel
theorem dX8_week_5 : decode cX8_week 5 = .ok (.aload_n 0, 1) := by decide +kernel
theorem dX8_week_6 : decode cX8_week 6 = .ok (.getfield 78, 3) := by decide +kernel
theorem dX8_week_9 : decode cX8_week 9 = .ok (.getfield 300, 3) := by decide +kernel
theorem dX8_week_12 : decode cX8_week 12 = .ok (.if_icmp .lt 5, 3) := by decide +kernel
theorem dX8_week_15 : decode cX8_week 15 = .ok (.iconst (-1), 1) := by decide +kernel
theorem dX8_week_16 : decode cX8_week 16 = .ok (.ireturn, 1) := by decide +kernel
theorem dX8_week_17 : decode cX8_week 17 = .ok (.iload_n 2, 1) := by decide +kernel
theorem dX8_week_18 : decode cX8_week 18 = .ok (.ifCond .ne 13, 3) := by decide +kernel
theorem dX8_week_21 : decode cX8_week 21 = .ok (.aload_n 0, 1) := by decide +kernel
theorem dX8_week_22 : decode cX8_week 22 = .ok (.getfield 78, 3) := by decide +kernel
theorem dX8_week_25 : decode cX8_week 25 = .ok (.getfield 303, 3) := by decide +kernel
theorem dX8_week_28 : decode cX8_week 28 = .ok (.iload_n 1, 1) := by decide +kernel
theorem dX8_week_29 : decode cX8_week 29 = .ok (.iaload, 1) := by decide +kernel
theorem dX8_week_30 : decode cX8_week 30 = .ok (.ireturn, 1) := by decide +kernel
theorem dX8_week_31 : decode cX8_week 31 = .ok (.aload_n 0, 1) := by decide +kernel
theorem dX8_week_32 : decode cX8_week 32 = .ok (.getfield 78, 3) := by decide +kernel
theorem dX8_week_35 : decode cX8_week 35 = .ok (.getfield 306, 3) := by decide +kernel
theorem dX8_week_38 : decode cX8_week 38 = .ok (.iload_n 1, 1) := by decide +kernel
theorem dX8_week_39 : decode cX8_week 39 = .ok (.laload, 1) := by decide +kernel
theorem dX8_week_40 : decode cX8_week 40 = .ok (.lstore_n 3, 1) := by decide +kernel
theorem dX8_week_41 : decode cX8_week 41 = .ok (.iload_n 2, 1) := by decide +kernel
theorem dX8_week_42 : decode cX8_week 42 = .ok (.iconst 1, 1) := by decide +kernel
theorem dX8_week_43 : decode cX8_week 43 = .ok (.if_icmp .ne 8, 3) := by decide +kernel
theorem dX8_week_46 : decode cX8_week 46 = .ok (.lload_n 3, 1) := by decide +kernel
theorem dX8_week_47 : decode cX8_week 47 = .ok (.invokestatic 188, 3) := by decide +kernel
theorem dX8_week_50 : decode cX8_week 50 = .ok (.ireturn, 1) := by decide +kernel
theorem dX8_week_51 : decode cX8_week 51 = .ok (.iload_n 2, 1) := by decide +kernel
theorem dX8_week_52 : decode cX8_week 52 = .ok (.iconst 2, 1) := by decide +kernel
theorem dX8_week_53 : decode cX8_week 53 = .ok (.isub, 1) := by decide +kernel
theorem dX8_week_54 : decode cX8_week 54 = .ok (.istore 5, 2) := by decide +kernel
theorem dX8_week_56 : decode cX8_week 56 = .ok (.iload 5, 2) := by decide +kernel
theorem dX8_week_58 : decode cX8_week 58 = .ok (.ifCond .lt 24, 3) := by decide +kernel
theorem dX8_week_61 : decode cX8_week 61 = .ok (.iload 5, 2) := by decide +kernel
theorem dX8_week_63 : decode cX8_week 63 = .ok (.aload_n 0, 1) := by decide +kernel
theorem dX8_week_64 : decode cX8_week 64 = .ok (.getfield 78, 3) := by decide +kernel
theorem dX8_week_67 : decode cX8_week 67 = .ok (.getfield 310, 3) := by decide +kernel
theorem dX8_week_70 : decode cX8_week 70 = .ok (.if_icmp .ge 12, 3) := by decide +kernel
theorem dX8_week_73 : decode cX8_week 73 = .ok (.lload_n 3, 1) := by decide +kernel
theorem dX8_week_74 : decode cX8_week 74 = .ok (.iload 5, 2) := by decide +kernel
theorem dX8_week_76 : decode cX8_week 76 = .ok (.invokestatic 198, 3) := by decide +kernel
theorem dX8_week_79 : decode cX8_week 79 = .ok (.goto 4, 3) := by decide +kernel
theorem dX8_week_82 : decode cX8_week 82 = .ok (.iconst (-1), 1) := by decide +kernel
theorem dX8_week_83 : decode cX8_week 83 = .ok (.ireturn, 1) := by decide +kernel
def bX8_week_0 (l : Launch) (E : Ev) (d : Nat) (Q : Option Value → Hp → Prop) : Kt := k_iload 1 (k_if_lt (k_push (.int (-1)) (k_iret .int Q)) (k_iload 1 (k_aload 0 (k_getR 8 19 16 (k_getI 6 7 0 (k_icmp_lt (k_iload 2 (k_if_ne (k_aload 0 (k_getR 8 19 16 (k_getR 6 7 4 (k_iload 1 (k_laload (k_lstore 3 (k_iload 2 (k_push (.int 1) (k_icmp_ne (k_iload 2 (k_push (.int 2) (k_isub (k_istore 5 (k_iload 5 (k_if_lt (k_push (.int (-1)) (k_iret .int Q)) (k_iload 5 (k_aload 0 (k_getR 8 19 16 (k_getI 6 7 2 (k_icmp_ge (k_push (.int (-1)) (k_iret .int Q)) (k_lload 3 (k_iload 5 (k_callS l E YX3_playerIn d 0 0 2 (k_iret .int Q))))))))))))))) (k_lload 3 (k_callS l E YX3_costIn d 0 0 1 (k_iret .int Q)))))))))))) (k_aload 0 (k_getR 8 19 16 (k_getR 6 7 3 (k_iload 1 (k_iaload (k_iret .int Q)))))))) (k_push (.int (-1)) (k_iret .int Q))))))))
set_option maxRecDepth 100000 in
set_option maxHeartbeats 4000000 in
theorem gX8_week_0 {l : Launch} {E : Ev} {d : Nat} {Q : Option Value → Hp → Prop} {ls : Lv} {st : List Value} {h : Hp} (hB : bX8_week_0 l E d Q ls st h) : Go l E YX8_week (d + 1) 0 0 Q 0 0 0 ls st h :=
  (sd_iload_n (i := 1) rfl dX8_week_0 (sd_if_lt (tgt := 15) (by decide) dX8_week_1 (sd_iconst (v := (-1)) (by decide) dX8_week_15 (sd_iret (ty := .int) rfl (by decide) (by decide) dX8_week_16)) (sd_iload_n (i := 1) rfl dX8_week_4 (sd_aload_n (i := 0) rfl dX8_week_5 (sd_getR clsX8 (f := 16) (by decide) (fun _ _ _ => rfl) mw_447 dX8_week_6 (sd_getI clsX6 (f := 0) (by decide) (fun _ _ _ => rfl) mw_404 dX8_week_9 (sd_icmp_lt (tgt := 17) (by decide) dX8_week_12 (sd_iload_n (i := 2) rfl dX8_week_17 (sd_if_ne (tgt := 31) (by decide) dX8_week_18 (sd_aload_n (i := 0) rfl dX8_week_31 (sd_getR clsX8 (f := 16) (by decide) (fun _ _ _ => rfl) mw_447 dX8_week_32 (sd_getR clsX6 (f := 4) (by decide) (fun _ _ _ => rfl) mw_412 dX8_week_35 (sd_iload_n (i := 1) rfl dX8_week_38 (sd_laload dX8_week_39 (sd_lstore_n (i := 3) rfl (by decide) dX8_week_40 (sd_iload_n (i := 2) rfl dX8_week_41 (sd_iconst (v := 1) (by decide) dX8_week_42 (sd_icmp_ne (tgt := 51) (by decide) dX8_week_43 (sd_iload_n (i := 2) rfl dX8_week_51 (sd_iconst (v := 2) (by decide) dX8_week_52 (sd_isub dX8_week_53 (sd_istore (i := 5) (by decide) dX8_week_54 (sd_iload (n := 5) dX8_week_56 (sd_if_lt (tgt := 82) (by decide) dX8_week_58 (sd_iconst (v := (-1)) (by decide) dX8_week_82 (sd_iret (ty := .int) rfl (by decide) (by decide) dX8_week_83)) (sd_iload (n := 5) dX8_week_61 (sd_aload_n (i := 0) rfl dX8_week_63 (sd_getR clsX8 (f := 16) (by decide) (fun _ _ _ => rfl) mw_447 dX8_week_64 (sd_getI clsX6 (f := 2) (by decide) (fun _ _ _ => rfl) mw_408 dX8_week_67 (sd_icmp_ge (tgt := 82) (by decide) dX8_week_70 (sd_iconst (v := (-1)) (by decide) dX8_week_82 (sd_iret (ty := .int) rfl (by decide) (by decide) dX8_week_83)) (sd_lload_n (i := 3) rfl dX8_week_73 (sd_iload (n := 5) dX8_week_74 (sd_callS (Y' := YX3_playerIn) (mc' := 0) (ms' := 0) (n := 2) mw_902 mw_903 mw_104 mw_904 (okmX3_playerIn) (by decide) (Nat.le_refl _) (by decide) (by decide) dX8_week_76 (sd_goto (tgt := 83) (by decide) dX8_week_79 (sd_iret (ty := .int) rfl (by decide) (by decide) dX8_week_83)))))))))))))))) (sd_lload_n (i := 3) rfl dX8_week_46 (sd_callS (Y' := YX3_costIn) (mc' := 0) (ms' := 0) (n := 1) mw_892 mw_893 mw_104 mw_894 (okmX3_costIn) (by decide) (Nat.le_refl _) (by decide) (by decide) dX8_week_47 (sd_iret (ty := .int) rfl (by decide) (by decide) dX8_week_50)))))))))))) (sd_aload_n (i := 0) rfl dX8_week_21 (sd_getR clsX8 (f := 16) (by decide) (fun _ _ _ => rfl) mw_447 dX8_week_22 (sd_getR clsX6 (f := 3) (by decide) (fun _ _ _ => rfl) mw_410 dX8_week_25 (sd_iload_n (i := 1) rfl dX8_week_28 (sd_iaload dX8_week_29 (sd_iret (ty := .int) rfl (by decide) (by decide) dX8_week_30)))))))) (sd_iconst (v := (-1)) (by decide) dX8_week_15 (sd_iret (ty := .int) rfl (by decide) (by decide) dX8_week_16)))))))) : Sd l E YX8_week (d + 1) 0 0 Q 0 0 0 (bX8_week_0 l E d Q)) ls st h hB
theorem eX8_week {l : Launch} {E : Ev} {d : Nat} {Q : Option Value → Hp → Prop} {h : Hp} {a0 : Nat} {x1 : Int32} {x2 : Int32} (hk : Go l E YX8_week d 0 0 Q 0 0 0 [some (.ref a0), some (.int x1), some (.int x2), none, none, none] [] h) : GoM l E YX8_week d 0 0 [.ref a0, .int x1, .int x2] h Q := GoM.of (by decide +kernel) rfl (by simp [entA, YX8_week]) hk
theorem dX8_learnt_0 : decode cX8_learnt 0 = .ok (.iload_n 1, 1) := by decide +kernel
theorem dX8_learnt_1 : decode cX8_learnt 1 = .ok (.ifCond .lt 33, 3) := by decide +kernel
theorem dX8_learnt_4 : decode cX8_learnt 4 = .ok (.iload_n 1, 1) := by decide +kernel
theorem dX8_learnt_5 : decode cX8_learnt 5 = .ok (.aload_n 0, 1) := by decide +kernel
theorem dX8_learnt_6 : decode cX8_learnt 6 = .ok (.getfield 78, 3) := by decide +kernel
theorem dX8_learnt_9 : decode cX8_learnt 9 = .ok (.getfield 311, 3) := by decide +kernel
theorem dX8_learnt_12 : decode cX8_learnt 12 = .ok (.if_icmp .ge 22, 3) := by decide +kernel
theorem dX8_learnt_15 : decode cX8_learnt 15 = .ok (.iload_n 2, 1) := by decide +kernel
theorem dX8_learnt_16 : decode cX8_learnt 16 = .ok (.ifCond .lt 18, 3) := by decide +kernel
theorem dX8_learnt_19 : decode cX8_learnt 19 = .ok (.iload_n 2, 1) := by decide +kernel
theorem dX8_learnt_20 : decode cX8_learnt 20 = .ok (.aload_n 0, 1) := by decide +kernel
theorem dX8_learnt_21 : decode cX8_learnt 21 = .ok (.getfield 78, 3) := by decide +kernel
theorem dX8_learnt_24 : decode cX8_learnt 24 = .ok (.getfield 310, 3) := by decide +kernel
theorem dX8_learnt_27 : decode cX8_learnt 27 = .ok (.if_icmp .ge 7, 3) := by decide +kernel
theorem dX8_learnt_30 : decode cX8_learnt 30 = .ok (.iconst 1, 1) := by decide +kernel
theorem dX8_learnt_31 : decode cX8_learnt 31 = .ok (.goto 4, 3) := by decide +kernel
theorem dX8_learnt_34 : decode cX8_learnt 34 = .ok (.iconst 0, 1) := by decide +kernel
theorem dX8_learnt_35 : decode cX8_learnt 35 = .ok (.istore_n 3, 1) := by decide +kernel
theorem dX8_learnt_36 : decode cX8_learnt 36 = .ok (.iload_n 3, 1) := by decide +kernel
theorem dX8_learnt_37 : decode cX8_learnt 37 = .ok (.ifCond .eq 20, 3) := by decide +kernel
theorem dX8_learnt_40 : decode cX8_learnt 40 = .ok (.aload_n 0, 1) := by decide +kernel
theorem dX8_learnt_41 : decode cX8_learnt 41 = .ok (.getfield 78, 3) := by decide +kernel
theorem dX8_learnt_44 : decode cX8_learnt 44 = .ok (.getfield 312, 3) := by decide +kernel
theorem dX8_learnt_47 : decode cX8_learnt 47 = .ok (.iload_n 1, 1) := by decide +kernel
theorem dX8_learnt_48 : decode cX8_learnt 48 = .ok (.bipush 8, 2) := by decide +kernel
theorem dX8_learnt_50 : decode cX8_learnt 50 = .ok (.imul, 1) := by decide +kernel
theorem dX8_learnt_51 : decode cX8_learnt 51 = .ok (.iload_n 2, 1) := by decide +kernel
theorem dX8_learnt_52 : decode cX8_learnt 52 = .ok (.iadd, 1) := by decide +kernel
theorem dX8_learnt_53 : decode cX8_learnt 53 = .ok (.iaload, 1) := by decide +kernel
theorem dX8_learnt_54 : decode cX8_learnt 54 = .ok (.goto 4, 3) := by decide +kernel
theorem dX8_learnt_57 : decode cX8_learnt 57 = .ok (.iconst (-1), 1) := by decide +kernel
theorem dX8_learnt_58 : decode cX8_learnt 58 = .ok (.ireturn, 1) := by decide +kernel
def bX8_learnt_0 (l : Launch) (E : Ev) (d : Nat) (Q : Option Value → Hp → Prop) : Kt := k_iload 1 (k_if_lt (k_push (.int 0) (Go l E YX8_learnt (d + 1) 0 0 Q 0 0 35)) (k_iload 1 (k_aload 0 (k_getR 8 19 16 (k_getI 6 7 1 (k_icmp_ge (k_push (.int 0) (Go l E YX8_learnt (d + 1) 0 0 Q 0 0 35)) (k_iload 2 (k_if_lt (k_push (.int 0) (Go l E YX8_learnt (d + 1) 0 0 Q 0 0 35)) (k_iload 2 (k_aload 0 (k_getR 8 19 16 (k_getI 6 7 2 (k_icmp_ge (k_push (.int 0) (Go l E YX8_learnt (d + 1) 0 0 Q 0 0 35)) (k_push (.int 1) (Go l E YX8_learnt (d + 1) 0 0 Q 0 0 35)))))))))))))))
set_option maxRecDepth 100000 in
set_option maxHeartbeats 4000000 in
theorem gX8_learnt_0 {l : Launch} {E : Ev} {d : Nat} {Q : Option Value → Hp → Prop} {ls : Lv} {st : List Value} {h : Hp} (hB : bX8_learnt_0 l E d Q ls st h) : Go l E YX8_learnt (d + 1) 0 0 Q 0 0 0 ls st h :=
  (sd_iload_n (i := 1) rfl dX8_learnt_0 (sd_if_lt (tgt := 34) (by decide) dX8_learnt_1 (sd_iconst (v := 0) (by decide) dX8_learnt_34 (Sd.go)) (sd_iload_n (i := 1) rfl dX8_learnt_4 (sd_aload_n (i := 0) rfl dX8_learnt_5 (sd_getR clsX8 (f := 16) (by decide) (fun _ _ _ => rfl) mw_447 dX8_learnt_6 (sd_getI clsX6 (f := 1) (by decide) (fun _ _ _ => rfl) mw_406 dX8_learnt_9 (sd_icmp_ge (tgt := 34) (by decide) dX8_learnt_12 (sd_iconst (v := 0) (by decide) dX8_learnt_34 (Sd.go)) (sd_iload_n (i := 2) rfl dX8_learnt_15 (sd_if_lt (tgt := 34) (by decide) dX8_learnt_16 (sd_iconst (v := 0) (by decide) dX8_learnt_34 (Sd.go)) (sd_iload_n (i := 2) rfl dX8_learnt_19 (sd_aload_n (i := 0) rfl dX8_learnt_20 (sd_getR clsX8 (f := 16) (by decide) (fun _ _ _ => rfl) mw_447 dX8_learnt_21 (sd_getI clsX6 (f := 2) (by decide) (fun _ _ _ => rfl) mw_408 dX8_learnt_24 (sd_icmp_ge (tgt := 34) (by decide) dX8_learnt_27 (sd_iconst (v := 0) (by decide) dX8_learnt_34 (Sd.go)) (sd_iconst (v := 1) (by decide) dX8_learnt_30 (sd_goto (tgt := 35) (by decide) dX8_learnt_31 (Sd.go)))))))))))))))) : Sd l E YX8_learnt (d + 1) 0 0 Q 0 0 0 (bX8_learnt_0 l E d Q)) ls st h hB
def bX8_learnt_35 (l : Launch) (E : Ev) (d : Nat) (Q : Option Value → Hp → Prop) : Kt := k_istore 3 (k_iload 3 (k_if_eq (k_push (.int (-1)) (k_iret .int Q)) (k_aload 0 (k_getR 8 19 16 (k_getR 6 7 5 (k_iload 1 (k_push (.int 8) (k_imul (k_iload 2 (k_iadd (k_iaload (k_iret .int Q))))))))))))
set_option maxRecDepth 100000 in
set_option maxHeartbeats 4000000 in
theorem gX8_learnt_35 {l : Launch} {E : Ev} {d : Nat} {Q : Option Value → Hp → Prop} {ls : Lv} {st : List Value} {h : Hp} (hB : bX8_learnt_35 l E d Q ls st h) : Go l E YX8_learnt (d + 1) 0 0 Q 0 0 35 ls st h :=
  (sd_istore_n (i := 3) rfl (by decide) dX8_learnt_35 (sd_iload_n (i := 3) rfl dX8_learnt_36 (sd_if_eq (tgt := 57) (by decide) dX8_learnt_37 (sd_iconst (v := (-1)) (by decide) dX8_learnt_57 (sd_iret (ty := .int) rfl (by decide) (by decide) dX8_learnt_58)) (sd_aload_n (i := 0) rfl dX8_learnt_40 (sd_getR clsX8 (f := 16) (by decide) (fun _ _ _ => rfl) mw_447 dX8_learnt_41 (sd_getR clsX6 (f := 5) (by decide) (fun _ _ _ => rfl) mw_414 dX8_learnt_44 (sd_iload_n (i := 1) rfl dX8_learnt_47 (sd_bipush (v := 8) (by decide) dX8_learnt_48 (sd_imul dX8_learnt_50 (sd_iload_n (i := 2) rfl dX8_learnt_51 (sd_iadd dX8_learnt_52 (sd_iaload dX8_learnt_53 (sd_goto (tgt := 58) (by decide) dX8_learnt_54 (sd_iret (ty := .int) rfl (by decide) (by decide) dX8_learnt_58))))))))))))) : Sd l E YX8_learnt (d + 1) 0 0 Q 0 0 35 (bX8_learnt_35 l E d Q)) ls st h hB
theorem eX8_learnt {l : Launch} {E : Ev} {d : Nat} {Q : Option Value → Hp → Prop} {h : Hp} {a0 : Nat} {x1 : Int32} {x2 : Int32} (hk : Go l E YX8_learnt d 0 0 Q 0 0 0 [some (.ref a0), some (.int x1), some (.int x2), none] [] h) : GoM l E YX8_learnt d 0 0 [.ref a0, .int x1, .int x2] h Q := GoM.of (by decide +kernel) rfl (by simp [entA, YX8_learnt]) hk
theorem dX8_image_0 : decode cX8_image 0 = .ok (.iload_n 1, 1) := by decide +kernel
theorem dX8_image_1 : decode cX8_image 1 = .ok (.ifCond .lt 8, 3) := by decide +kernel
theorem dX8_image_4 : decode cX8_image 4 = .ok (.iload_n 1, 1) := by decide +kernel
theorem dX8_image_5 : decode cX8_image 5 = .ok (.iconst 2, 1) := by decide +kernel
theorem dX8_image_6 : decode cX8_image 6 = .ok (.if_icmp .lt 9, 3) := by decide +kernel
theorem dX8_image_9 : decode cX8_image 9 = .ok (.aload_n 0, 1) := by decide +kernel
theorem dX8_image_10 : decode cX8_image 10 = .ok (.iconst (-1), 1) := by decide +kernel
theorem dX8_image_11 : decode cX8_image 11 = .ok (.invokevirtual 89, 3) := by decide +kernel
theorem dX8_image_14 : decode cX8_image 14 = .ok (.ireturn, 1) := by decide +kernel
theorem dX8_image_15 : decode cX8_image 15 = .ok (.aload_n 0, 1) := by decide +kernel
theorem dX8_image_16 : decode cX8_image 16 = .ok (.getfield 16, 3) := by decide +kernel
theorem dX8_image_19 : decode cX8_image 19 = .ok (.iload_n 1, 1) := by decide +kernel
theorem dX8_image_20 : decode cX8_image 20 = .ok (.aaload, 1) := by decide +kernel
theorem dX8_image_21 : decode cX8_image 21 = .ok (.aload_n 0, 1) := by decide +kernel
theorem dX8_image_22 : decode cX8_image 22 = .ok (.getfield 10, 3) := by decide +kernel
theorem dX8_image_25 : decode cX8_image 25 = .ok (.invokevirtual 313, 3) := by decide +kernel
theorem dX8_image_28 : decode cX8_image 28 = .ok (.aload_n 0, 1) := by decide +kernel
theorem dX8_image_29 : decode cX8_image 29 = .ok (.getfield 20, 3) := by decide +kernel
theorem dX8_image_32 : decode cX8_image 32 = .ok (.iload_n 1, 1) := by decide +kernel
theorem dX8_image_33 : decode cX8_image 33 = .ok (.iconst 1, 1) := by decide +kernel
theorem dX8_image_34 : decode cX8_image 34 = .ok (.bastore, 1) := by decide +kernel
theorem dX8_image_35 : decode cX8_image 35 = .ok (.aload_n 0, 1) := by decide +kernel
theorem dX8_image_36 : decode cX8_image 36 = .ok (.iconst 0, 1) := by decide +kernel
theorem dX8_image_37 : decode cX8_image 37 = .ok (.invokevirtual 99, 3) := by decide +kernel
theorem dX8_image_40 : decode cX8_image 40 = .ok (.ireturn, 1) := by decide +kernel
def bX8_image_0 (l : Launch) (E : Ev) (d : Nat) (Q : Option Value → Hp → Prop) : Kt := k_iload 1 (k_if_lt (Go l E YX8_image (d + 1) 0 0 Q 0 0 9) (k_iload 1 (k_push (.int 2) (k_icmp_lt (k_aload 0 (k_getR 8 19 1 (k_iload 1 (k_aaload 5 (k_aload 0 (k_getR 8 19 0 (k_callV l E 7 15 YX7_become d 0 0 1 (k_aload 0 (k_getR 8 19 2 (k_iload 1 (k_push (.int 1) (k_zastore (k_aload 0 (k_push (.int 0) (k_callV l E 8 19 YX8_accept d 0 0 1 (k_iret .int Q)))))))))))))))) (Go l E YX8_image (d + 1) 0 0 Q 0 0 9)))))
set_option maxRecDepth 100000 in
set_option maxHeartbeats 4000000 in
theorem gX8_image_0 {l : Launch} {E : Ev} {d : Nat} {Q : Option Value → Hp → Prop} {ls : Lv} {st : List Value} {h : Hp} (hB : bX8_image_0 l E d Q ls st h) : Go l E YX8_image (d + 1) 0 0 Q 0 0 0 ls st h :=
  (sd_iload_n (i := 1) rfl dX8_image_0 (sd_if_lt (tgt := 9) (by decide) dX8_image_1 (Sd.go) (sd_iload_n (i := 1) rfl dX8_image_4 (sd_iconst (v := 2) (by decide) dX8_image_5 (sd_icmp_lt (tgt := 15) (by decide) dX8_image_6 (sd_aload_n (i := 0) rfl dX8_image_15 (sd_getR clsX8 (f := 1) (by decide) (fun _ _ _ => rfl) mw_432 dX8_image_16 (sd_iload_n (i := 1) rfl dX8_image_19 (sd_aaload (ki := 5) (by decide) dX8_image_20 (sd_aload_n (i := 0) rfl dX8_image_21 (sd_getR clsX8 (f := 0) (by decide) (fun _ _ _ => rfl) mw_431 dX8_image_22 (sd_callV (Y' := YX7_become) (mc' := 0) (ms' := 0) (n := 1) clsX7.1 mw_1141 mw_1142 mw_1143 mw_101 mw_1144 rfl (okmX7_become) (by decide) (Nat.le_refl _) (by decide) (by decide) dX8_image_25 (sd_aload_n (i := 0) rfl dX8_image_28 (sd_getR clsX8 (f := 2) (by decide) (fun _ _ _ => rfl) mw_433 dX8_image_29 (sd_iload_n (i := 1) rfl dX8_image_32 (sd_iconst (v := 1) (by decide) dX8_image_33 (sd_zastore dX8_image_34 (sd_aload_n (i := 0) rfl dX8_image_35 (sd_iconst (v := 0) (by decide) dX8_image_36 (sd_callV (Y' := YX8_accept) (mc' := 0) (ms' := 0) (n := 1) clsX8.1 mw_504 mw_506 mw_1 mw_100 mw_507 rfl (okmX8_accept) (by decide) (Nat.le_refl _) (by decide) (by decide) dX8_image_37 (sd_iret (ty := .int) rfl (by decide) (by decide) dX8_image_40)))))))))))))))) (Sd.go))))) : Sd l E YX8_image (d + 1) 0 0 Q 0 0 0 (bX8_image_0 l E d Q)) ls st h hB
def bX8_image_9 (l : Launch) (E : Ev) (d : Nat) (Q : Option Value → Hp → Prop) : Kt := k_aload 0 (k_push (.int (-1)) (k_callV l E 8 19 YX8_refuse d 0 0 1 (k_iret .int Q)))
set_option maxRecDepth 100000 in
set_option maxHeartbeats 4000000 in
theorem gX8_image_9 {l : Launch} {E : Ev} {d : Nat} {Q : Option Value → Hp → Prop} {ls : Lv} {st : List Value} {h : Hp} (hB : bX8_image_9 l E d Q ls st h) : Go l E YX8_image (d + 1) 0 0 Q 0 0 9 ls st h :=
  (sd_aload_n (i := 0) rfl dX8_image_9 (sd_iconst (v := (-1)) (by decide) dX8_image_10 (sd_callV (Y' := YX8_refuse) (mc' := 0) (ms' := 0) (n := 1) clsX8.1 mw_500 mw_502 mw_0 mw_100 mw_503 rfl (okmX8_refuse) (by decide) (Nat.le_refl _) (by decide) (by decide) dX8_image_11 (sd_iret (ty := .int) rfl (by decide) (by decide) dX8_image_14))) : Sd l E YX8_image (d + 1) 0 0 Q 0 0 9 (bX8_image_9 l E d Q)) ls st h hB
theorem eX8_image {l : Launch} {E : Ev} {d : Nat} {Q : Option Value → Hp → Prop} {h : Hp} {a0 : Nat} {x1 : Int32} (hk : Go l E YX8_image d 0 0 Q 0 0 0 [some (.ref a0), some (.int x1)] [] h) : GoM l E YX8_image d 0 0 [.ref a0, .int x1] h Q := GoM.of (by decide +kernel) rfl (by simp [entA, YX8_image]) hk
theorem dX8_back_0 : decode cX8_back 0 = .ok (.iload_n 1, 1) := by decide +kernel
theorem dX8_back_1 : decode cX8_back 1 = .ok (.ifCond .lt 8, 3) := by decide +kernel
theorem dX8_back_4 : decode cX8_back 4 = .ok (.iload_n 1, 1) := by decide +kernel
theorem dX8_back_5 : decode cX8_back 5 = .ok (.iconst 2, 1) := by decide +kernel
theorem dX8_back_6 : decode cX8_back 6 = .ok (.if_icmp .lt 9, 3) := by decide +kernel
theorem dX8_back_9 : decode cX8_back 9 = .ok (.aload_n 0, 1) := by decide +kernel
theorem dX8_back_10 : decode cX8_back 10 = .ok (.iconst (-1), 1) := by decide +kernel
theorem dX8_back_11 : decode cX8_back 11 = .ok (.invokevirtual 89, 3) := by decide +kernel
theorem dX8_back_14 : decode cX8_back 14 = .ok (.ireturn, 1) := by decide +kernel
theorem dX8_back_15 : decode cX8_back 15 = .ok (.aload_n 0, 1) := by decide +kernel
theorem dX8_back_16 : decode cX8_back 16 = .ok (.getfield 20, 3) := by decide +kernel
theorem dX8_back_19 : decode cX8_back 19 = .ok (.iload_n 1, 1) := by decide +kernel
theorem dX8_back_20 : decode cX8_back 20 = .ok (.baload, 1) := by decide +kernel
theorem dX8_back_21 : decode cX8_back 21 = .ok (.ifCond .ne 10, 3) := by decide +kernel
theorem dX8_back_24 : decode cX8_back 24 = .ok (.aload_n 0, 1) := by decide +kernel
theorem dX8_back_25 : decode cX8_back 25 = .ok (.bipush (-2), 2) := by decide +kernel
theorem dX8_back_27 : decode cX8_back 27 = .ok (.invokevirtual 89, 3) := by decide +kernel
theorem dX8_back_30 : decode cX8_back 30 = .ok (.ireturn, 1) := by decide +kernel
theorem dX8_back_31 : decode cX8_back 31 = .ok (.aload_n 0, 1) := by decide +kernel
theorem dX8_back_32 : decode cX8_back 32 = .ok (.getfield 10, 3) := by decide +kernel
theorem dX8_back_35 : decode cX8_back 35 = .ok (.aload_n 0, 1) := by decide +kernel
theorem dX8_back_36 : decode cX8_back 36 = .ok (.getfield 16, 3) := by decide +kernel
theorem dX8_back_39 : decode cX8_back 39 = .ok (.iload_n 1, 1) := by decide +kernel
theorem dX8_back_40 : decode cX8_back 40 = .ok (.aaload, 1) := by decide +kernel
theorem dX8_back_41 : decode cX8_back 41 = .ok (.invokevirtual 313, 3) := by decide +kernel
theorem dX8_back_44 : decode cX8_back 44 = .ok (.aload_n 0, 1) := by decide +kernel
theorem dX8_back_45 : decode cX8_back 45 = .ok (.iconst 0, 1) := by decide +kernel
theorem dX8_back_46 : decode cX8_back 46 = .ok (.invokevirtual 99, 3) := by decide +kernel
theorem dX8_back_49 : decode cX8_back 49 = .ok (.ireturn, 1) := by decide +kernel
def bX8_back_0 (l : Launch) (E : Ev) (d : Nat) (Q : Option Value → Hp → Prop) : Kt := k_iload 1 (k_if_lt (Go l E YX8_back (d + 1) 0 0 Q 0 0 9) (k_iload 1 (k_push (.int 2) (k_icmp_lt (k_aload 0 (k_getR 8 19 2 (k_iload 1 (k_zaload (k_if_ne (k_aload 0 (k_getR 8 19 0 (k_aload 0 (k_getR 8 19 1 (k_iload 1 (k_aaload 5 (k_callV l E 7 15 YX7_become d 0 0 1 (k_aload 0 (k_push (.int 0) (k_callV l E 8 19 YX8_accept d 0 0 1 (k_iret .int Q))))))))))) (k_aload 0 (k_push (.int (-2)) (k_callV l E 8 19 YX8_refuse d 0 0 1 (k_iret .int Q))))))))) (Go l E YX8_back (d + 1) 0 0 Q 0 0 9)))))
set_option maxRecDepth 100000 in
set_option maxHeartbeats 4000000 in
theorem gX8_back_0 {l : Launch} {E : Ev} {d : Nat} {Q : Option Value → Hp → Prop} {ls : Lv} {st : List Value} {h : Hp} (hB : bX8_back_0 l E d Q ls st h) : Go l E YX8_back (d + 1) 0 0 Q 0 0 0 ls st h :=
  (sd_iload_n (i := 1) rfl dX8_back_0 (sd_if_lt (tgt := 9) (by decide) dX8_back_1 (Sd.go) (sd_iload_n (i := 1) rfl dX8_back_4 (sd_iconst (v := 2) (by decide) dX8_back_5 (sd_icmp_lt (tgt := 15) (by decide) dX8_back_6 (sd_aload_n (i := 0) rfl dX8_back_15 (sd_getR clsX8 (f := 2) (by decide) (fun _ _ _ => rfl) mw_433 dX8_back_16 (sd_iload_n (i := 1) rfl dX8_back_19 (sd_zaload dX8_back_20 (sd_if_ne (tgt := 31) (by decide) dX8_back_21 (sd_aload_n (i := 0) rfl dX8_back_31 (sd_getR clsX8 (f := 0) (by decide) (fun _ _ _ => rfl) mw_431 dX8_back_32 (sd_aload_n (i := 0) rfl dX8_back_35 (sd_getR clsX8 (f := 1) (by decide) (fun _ _ _ => rfl) mw_432 dX8_back_36 (sd_iload_n (i := 1) rfl dX8_back_39 (sd_aaload (ki := 5) (by decide) dX8_back_40 (sd_callV (Y' := YX7_become) (mc' := 0) (ms' := 0) (n := 1) clsX7.1 mw_1141 mw_1142 mw_1143 mw_101 mw_1144 rfl (okmX7_become) (by decide) (Nat.le_refl _) (by decide) (by decide) dX8_back_41 (sd_aload_n (i := 0) rfl dX8_back_44 (sd_iconst (v := 0) (by decide) dX8_back_45 (sd_callV (Y' := YX8_accept) (mc' := 0) (ms' := 0) (n := 1) clsX8.1 mw_504 mw_506 mw_1 mw_100 mw_507 rfl (okmX8_accept) (by decide) (Nat.le_refl _) (by decide) (by decide) dX8_back_46 (sd_iret (ty := .int) rfl (by decide) (by decide) dX8_back_49))))))))))) (sd_aload_n (i := 0) rfl dX8_back_24 (sd_bipush (v := (-2)) (by decide) dX8_back_25 (sd_callV (Y' := YX8_refuse) (mc' := 0) (ms' := 0) (n := 1) clsX8.1 mw_500 mw_502 mw_0 mw_100 mw_503 rfl (okmX8_refuse) (by decide) (Nat.le_refl _) (by decide) (by decide) dX8_back_27 (sd_iret (ty := .int) rfl (by decide) (by decide) dX8_back_30))))))))) (Sd.go))))) : Sd l E YX8_back (d + 1) 0 0 Q 0 0 0 (bX8_back_0 l E d Q)) ls st h hB
def bX8_back_9 (l : Launch) (E : Ev) (d : Nat) (Q : Option Value → Hp → Prop) : Kt := k_aload 0 (k_push (.int (-1)) (k_callV l E 8 19 YX8_refuse d 0 0 1 (k_iret .int Q)))
set_option maxRecDepth 100000 in
set_option maxHeartbeats 4000000 in
theorem gX8_back_9 {l : Launch} {E : Ev} {d : Nat} {Q : Option Value → Hp → Prop} {ls : Lv} {st : List Value} {h : Hp} (hB : bX8_back_9 l E d Q ls st h) : Go l E YX8_back (d + 1) 0 0 Q 0 0 9 ls st h :=
  (sd_aload_n (i := 0) rfl dX8_back_9 (sd_iconst (v := (-1)) (by decide) dX8_back_10 (sd_callV (Y' := YX8_refuse) (mc' := 0) (ms' := 0) (n := 1) clsX8.1 mw_500 mw_502 mw_0 mw_100 mw_503 rfl (okmX8_refuse) (by decide) (Nat.le_refl _) (by decide) (by decide) dX8_back_11 (sd_iret (ty := .int) rfl (by decide) (by decide) dX8_back_14))) : Sd l E YX8_back (d + 1) 0 0 Q 0 0 9 (bX8_back_9 l E d Q)) ls st h hB
theorem eX8_back {l : Launch} {E : Ev} {d : Nat} {Q : Option Value → Hp → Prop} {h : Hp} {a0 : Nat} {x1 : Int32} (hk : Go l E YX8_back d 0 0 Q 0 0 0 [some (.ref a0), some (.int x1)] [] h) : GoM l E YX8_back d 0 0 [.ref a0, .int x1] h Q := GoM.of (by decide +kernel) rfl (by simp [entA, YX8_back]) hk
theorem dX8_count_0 : decode cX8_count 0 = .ok (.iload_n 1, 1) := by decide +kernel
theorem dX8_count_1 : decode cX8_count 1 = .ok (.bipush 7, 2) := by decide +kernel
theorem dX8_count_3 : decode cX8_count 3 = .ok (.if_icmp .lt 19, 3) := by decide +kernel
theorem dX8_count_6 : decode cX8_count 6 = .ok (.iload_n 1, 1) := by decide +kernel
theorem dX8_count_7 : decode cX8_count 7 = .ok (.bipush 11, 2) := by decide +kernel
theorem dX8_count_9 : decode cX8_count 9 = .ok (.if_icmp .gt 13, 3) := by decide +kernel
theorem dX8_count_12 : decode cX8_count 12 = .ok (.aload_n 0, 1) := by decide +kernel
theorem dX8_count_13 : decode cX8_count 13 = .ok (.getfield 39, 3) := by decide +kernel
theorem dX8_count_16 : decode cX8_count 16 = .ok (.iload_n 1, 1) := by decide +kernel
theorem dX8_count_17 : decode cX8_count 17 = .ok (.bipush 7, 2) := by decide +kernel
theorem dX8_count_19 : decode cX8_count 19 = .ok (.isub, 1) := by decide +kernel
theorem dX8_count_20 : decode cX8_count 20 = .ok (.iaload, 1) := by decide +kernel
theorem dX8_count_21 : decode cX8_count 21 = .ok (.ireturn, 1) := by decide +kernel
theorem dX8_count_22 : decode cX8_count 22 = .ok (.iload_n 1, 1) := by decide +kernel
theorem dX8_count_23 : decode cX8_count 23 = .ok (.bipush 13, 2) := by decide +kernel
theorem dX8_count_25 : decode cX8_count 25 = .ok (.if_icmp .lt 22, 3) := by decide +kernel
theorem dX8_count_28 : decode cX8_count 28 = .ok (.iload_n 1, 1) := by decide +kernel
theorem dX8_count_29 : decode cX8_count 29 = .ok (.bipush 15, 2) := by decide +kernel
theorem dX8_count_31 : decode cX8_count 31 = .ok (.if_icmp .gt 16, 3) := by decide +kernel
theorem dX8_count_34 : decode cX8_count 34 = .ok (.aload_n 0, 1) := by decide +kernel
theorem dX8_count_35 : decode cX8_count 35 = .ok (.getfield 10, 3) := by decide +kernel
theorem dX8_count_38 : decode cX8_count 38 = .ok (.getfield 127, 3) := by decide +kernel
theorem dX8_count_41 : decode cX8_count 41 = .ok (.iload_n 1, 1) := by decide +kernel
theorem dX8_count_42 : decode cX8_count 42 = .ok (.bipush 13, 2) := by decide +kernel
theorem dX8_count_44 : decode cX8_count 44 = .ok (.isub, 1) := by decide +kernel
theorem dX8_count_45 : decode cX8_count 45 = .ok (.iaload, 1) := by decide +kernel
theorem dX8_count_46 : decode cX8_count 46 = .ok (.ireturn, 1) := by decide +kernel
theorem dX8_count_47 : decode cX8_count 47 = .ok (.iload_n 1, 1) := by decide +kernel
theorem dX8_count_48 : decode cX8_count 48 = .ok (.tableswitch 129 0 12 #[68, 76, 84, 92, 100, 108, 116, 129, 129, 129, 129, 129, 121], 68) := by decide +kernel
theorem dX8_count_116 : decode cX8_count 116 = .ok (.aload_n 0, 1) := by decide +kernel
theorem dX8_count_117 : decode cX8_count 117 = .ok (.getfield 10, 3) := by decide +kernel
theorem dX8_count_120 : decode cX8_count 120 = .ok (.getfield 93, 3) := by decide +kernel
theorem dX8_count_123 : decode cX8_count 123 = .ok (.ireturn, 1) := by decide +kernel
theorem dX8_count_124 : decode cX8_count 124 = .ok (.aload_n 0, 1) := by decide +kernel
theorem dX8_count_125 : decode cX8_count 125 = .ok (.getfield 10, 3) := by decide +kernel
theorem dX8_count_128 : decode cX8_count 128 = .ok (.getfield 105, 3) := by decide +kernel
theorem dX8_count_131 : decode cX8_count 131 = .ok (.ireturn, 1) := by decide +kernel
theorem dX8_count_132 : decode cX8_count 132 = .ok (.aload_n 0, 1) := by decide +kernel
theorem dX8_count_133 : decode cX8_count 133 = .ok (.getfield 10, 3) := by decide +kernel
theorem dX8_count_136 : decode cX8_count 136 = .ok (.getfield 164, 3) := by decide +kernel
theorem dX8_count_139 : decode cX8_count 139 = .ok (.ireturn, 1) := by decide +kernel
theorem dX8_count_140 : decode cX8_count 140 = .ok (.aload_n 0, 1) := by decide +kernel
theorem dX8_count_141 : decode cX8_count 141 = .ok (.getfield 10, 3) := by decide +kernel
theorem dX8_count_144 : decode cX8_count 144 = .ok (.getfield 269, 3) := by decide +kernel
theorem dX8_count_147 : decode cX8_count 147 = .ok (.ireturn, 1) := by decide +kernel
theorem dX8_count_148 : decode cX8_count 148 = .ok (.aload_n 0, 1) := by decide +kernel
theorem dX8_count_149 : decode cX8_count 149 = .ok (.getfield 10, 3) := by decide +kernel
theorem dX8_count_152 : decode cX8_count 152 = .ok (.getfield 225, 3) := by decide +kernel
theorem dX8_count_155 : decode cX8_count 155 = .ok (.ireturn, 1) := by decide +kernel
theorem dX8_count_156 : decode cX8_count 156 = .ok (.aload_n 0, 1) := by decide +kernel
theorem dX8_count_157 : decode cX8_count 157 = .ok (.getfield 10, 3) := by decide +kernel
theorem dX8_count_160 : decode cX8_count 160 = .ok (.getfield 148, 3) := by decide +kernel
theorem dX8_count_163 : decode cX8_count 163 = .ok (.ireturn, 1) := by decide +kernel
theorem dX8_count_164 : decode cX8_count 164 = .ok (.aload_n 0, 1) := by decide +kernel
theorem dX8_count_165 : decode cX8_count 165 = .ok (.getfield 154, 3) := by decide +kernel
theorem dX8_count_168 : decode cX8_count 168 = .ok (.ireturn, 1) := by decide +kernel
theorem dX8_count_169 : decode cX8_count 169 = .ok (.aload_n 0, 1) := by decide +kernel
theorem dX8_count_170 : decode cX8_count 170 = .ok (.getfield 10, 3) := by decide +kernel
theorem dX8_count_173 : decode cX8_count 173 = .ok (.getfield 178, 3) := by decide +kernel
theorem dX8_count_176 : decode cX8_count 176 = .ok (.ireturn, 1) := by decide +kernel
theorem dX8_count_177 : decode cX8_count 177 = .ok (.iconst (-1), 1) := by decide +kernel
theorem dX8_count_178 : decode cX8_count 178 = .ok (.ireturn, 1) := by decide +kernel
def bX8_count_0 (l : Launch) (E : Ev) (d : Nat) (Q : Option Value → Hp → Prop) : Kt := k_iload 1 (k_push (.int 7) (k_icmp_lt (Go l E YX8_count (d + 1) 0 0 Q 0 0 22) (k_iload 1 (k_push (.int 11) (k_icmp_gt (Go l E YX8_count (d + 1) 0 0 Q 0 0 22) (k_aload 0 (k_getR 8 19 8 (k_iload 1 (k_push (.int 7) (k_isub (k_iaload (k_iret .int Q))))))))))))
set_option maxRecDepth 100000 in
set_option maxHeartbeats 4000000 in
theorem gX8_count_0 {l : Launch} {E : Ev} {d : Nat} {Q : Option Value → Hp → Prop} {ls : Lv} {st : List Value} {h : Hp} (hB : bX8_count_0 l E d Q ls st h) : Go l E YX8_count (d + 1) 0 0 Q 0 0 0 ls st h :=
  (sd_iload_n (i := 1) rfl dX8_count_0 (sd_bipush (v := 7) (by decide) dX8_count_1 (sd_icmp_lt (tgt := 22) (by decide) dX8_count_3 (Sd.go) (sd_iload_n (i := 1) rfl dX8_count_6 (sd_bipush (v := 11) (by decide) dX8_count_7 (sd_icmp_gt (tgt := 22) (by decide) dX8_count_9 (Sd.go) (sd_aload_n (i := 0) rfl dX8_count_12 (sd_getR clsX8 (f := 8) (by decide) (fun _ _ _ => rfl) mw_439 dX8_count_13 (sd_iload_n (i := 1) rfl dX8_count_16 (sd_bipush (v := 7) (by decide) dX8_count_17 (sd_isub dX8_count_19 (sd_iaload dX8_count_20 (sd_iret (ty := .int) rfl (by decide) (by decide) dX8_count_21)))))))))))) : Sd l E YX8_count (d + 1) 0 0 Q 0 0 0 (bX8_count_0 l E d Q)) ls st h hB
def bX8_count_22 (l : Launch) (E : Ev) (d : Nat) (Q : Option Value → Hp → Prop) : Kt := k_iload 1 (k_push (.int 13) (k_icmp_lt (Go l E YX8_count (d + 1) 0 0 Q 0 0 47) (k_iload 1 (k_push (.int 15) (k_icmp_gt (Go l E YX8_count (d + 1) 0 0 Q 0 0 47) (k_aload 0 (k_getR 8 19 0 (k_getR 7 15 7 (k_iload 1 (k_push (.int 13) (k_isub (k_iaload (k_iret .int Q)))))))))))))
set_option maxRecDepth 100000 in
set_option maxHeartbeats 4000000 in
theorem gX8_count_22 {l : Launch} {E : Ev} {d : Nat} {Q : Option Value → Hp → Prop} {ls : Lv} {st : List Value} {h : Hp} (hB : bX8_count_22 l E d Q ls st h) : Go l E YX8_count (d + 1) 0 0 Q 0 0 22 ls st h :=
  (sd_iload_n (i := 1) rfl dX8_count_22 (sd_bipush (v := 13) (by decide) dX8_count_23 (sd_icmp_lt (tgt := 47) (by decide) dX8_count_25 (Sd.go) (sd_iload_n (i := 1) rfl dX8_count_28 (sd_bipush (v := 15) (by decide) dX8_count_29 (sd_icmp_gt (tgt := 47) (by decide) dX8_count_31 (Sd.go) (sd_aload_n (i := 0) rfl dX8_count_34 (sd_getR clsX8 (f := 0) (by decide) (fun _ _ _ => rfl) mw_431 dX8_count_35 (sd_getR clsX7 (f := 7) (by decide) (fun _ _ _ => rfl) mw_166 dX8_count_38 (sd_iload_n (i := 1) rfl dX8_count_41 (sd_bipush (v := 13) (by decide) dX8_count_42 (sd_isub dX8_count_44 (sd_iaload dX8_count_45 (sd_iret (ty := .int) rfl (by decide) (by decide) dX8_count_46))))))))))))) : Sd l E YX8_count (d + 1) 0 0 Q 0 0 22 (bX8_count_22 l E d Q)) ls st h hB
def bX8_count_47 (l : Launch) (E : Ev) (d : Nat) (Q : Option Value → Hp → Prop) : Kt := k_iload 1 (k_sw [(0, (k_aload 0 (k_getR 8 19 0 (k_getI 7 15 0 (k_iret .int Q))))), (1, (k_aload 0 (k_getR 8 19 0 (k_getI 7 15 1 (k_iret .int Q))))), (2, (k_aload 0 (k_getR 8 19 0 (k_getI 7 15 9 (k_iret .int Q))))), (3, (k_aload 0 (k_getR 8 19 0 (k_getI 7 15 12 (k_iret .int Q))))), (4, (k_aload 0 (k_getR 8 19 0 (k_getI 7 15 14 (k_iret .int Q))))), (5, (k_aload 0 (k_getR 8 19 0 (k_getI 7 15 6 (k_iret .int Q))))), (6, (k_aload 0 (k_getI 8 19 4 (k_iret .int Q)))), (7, (k_push (.int (-1)) (k_iret .int Q))), (8, (k_push (.int (-1)) (k_iret .int Q))), (9, (k_push (.int (-1)) (k_iret .int Q))), (10, (k_push (.int (-1)) (k_iret .int Q))), (11, (k_push (.int (-1)) (k_iret .int Q))), (12, (k_aload 0 (k_getR 8 19 0 (k_getI 7 15 10 (k_iret .int Q)))))] (k_push (.int (-1)) (k_iret .int Q)))
set_option maxRecDepth 100000 in
set_option maxHeartbeats 4000000 in
theorem gX8_count_47 {l : Launch} {E : Ev} {d : Nat} {Q : Option Value → Hp → Prop} {ls : Lv} {st : List Value} {h : Hp} (hB : bX8_count_47 l E d Q ls st h) : Go l E YX8_count (d + 1) 0 0 Q 0 0 47 ls st h :=
  (sd_iload_n (i := 1) rfl dX8_count_47 (sd_table dX8_count_48 (dt := 177) (by decide) (sd_iconst (v := (-1)) (by decide) dX8_count_177 (sd_iret (ty := .int) rfl (by decide) (by decide) dX8_count_178)) rfl (tb_all (tb_cons (off := 68) (tgt := 116) (by decide) rfl (by decide) (sd_aload_n (i := 0) rfl dX8_count_116 (sd_getR clsX8 (f := 0) (by decide) (fun _ _ _ => rfl) mw_431 dX8_count_117 (sd_getI clsX7 (f := 0) (by decide) (fun _ _ _ => rfl) mw_138 dX8_count_120 (sd_iret (ty := .int) rfl (by decide) (by decide) dX8_count_123)))) (tb_cons (off := 76) (tgt := 124) (by decide) rfl (by decide) (sd_aload_n (i := 0) rfl dX8_count_124 (sd_getR clsX8 (f := 0) (by decide) (fun _ _ _ => rfl) mw_431 dX8_count_125 (sd_getI clsX7 (f := 1) (by decide) (fun _ _ _ => rfl) mw_143 dX8_count_128 (sd_iret (ty := .int) rfl (by decide) (by decide) dX8_count_131)))) (tb_cons (off := 84) (tgt := 132) (by decide) rfl (by decide) (sd_aload_n (i := 0) rfl dX8_count_132 (sd_getR clsX8 (f := 0) (by decide) (fun _ _ _ => rfl) mw_431 dX8_count_133 (sd_getI clsX7 (f := 9) (by decide) (fun _ _ _ => rfl) mw_170 dX8_count_136 (sd_iret (ty := .int) rfl (by decide) (by decide) dX8_count_139)))) (tb_cons (off := 92) (tgt := 140) (by decide) rfl (by decide) (sd_aload_n (i := 0) rfl dX8_count_140 (sd_getR clsX8 (f := 0) (by decide) (fun _ _ _ => rfl) mw_431 dX8_count_141 (sd_getI clsX7 (f := 12) (by decide) (fun _ _ _ => rfl) mw_178 dX8_count_144 (sd_iret (ty := .int) rfl (by decide) (by decide) dX8_count_147)))) (tb_cons (off := 100) (tgt := 148) (by decide) rfl (by decide) (sd_aload_n (i := 0) rfl dX8_count_148 (sd_getR clsX8 (f := 0) (by decide) (fun _ _ _ => rfl) mw_431 dX8_count_149 (sd_getI clsX7 (f := 14) (by decide) (fun _ _ _ => rfl) mw_182 dX8_count_152 (sd_iret (ty := .int) rfl (by decide) (by decide) dX8_count_155)))) (tb_cons (off := 108) (tgt := 156) (by decide) rfl (by decide) (sd_aload_n (i := 0) rfl dX8_count_156 (sd_getR clsX8 (f := 0) (by decide) (fun _ _ _ => rfl) mw_431 dX8_count_157 (sd_getI clsX7 (f := 6) (by decide) (fun _ _ _ => rfl) mw_161 dX8_count_160 (sd_iret (ty := .int) rfl (by decide) (by decide) dX8_count_163)))) (tb_cons (off := 116) (tgt := 164) (by decide) rfl (by decide) (sd_aload_n (i := 0) rfl dX8_count_164 (sd_getI clsX8 (f := 4) (by decide) (fun _ _ _ => rfl) mw_435 dX8_count_165 (sd_iret (ty := .int) rfl (by decide) (by decide) dX8_count_168))) (tb_cons (off := 129) (tgt := 177) (by decide) rfl (by decide) (sd_iconst (v := (-1)) (by decide) dX8_count_177 (sd_iret (ty := .int) rfl (by decide) (by decide) dX8_count_178)) (tb_cons (off := 129) (tgt := 177) (by decide) rfl (by decide) (sd_iconst (v := (-1)) (by decide) dX8_count_177 (sd_iret (ty := .int) rfl (by decide) (by decide) dX8_count_178)) (tb_cons (off := 129) (tgt := 177) (by decide) rfl (by decide) (sd_iconst (v := (-1)) (by decide) dX8_count_177 (sd_iret (ty := .int) rfl (by decide) (by decide) dX8_count_178)) (tb_cons (off := 129) (tgt := 177) (by decide) rfl (by decide) (sd_iconst (v := (-1)) (by decide) dX8_count_177 (sd_iret (ty := .int) rfl (by decide) (by decide) dX8_count_178)) (tb_cons (off := 129) (tgt := 177) (by decide) rfl (by decide) (sd_iconst (v := (-1)) (by decide) dX8_count_177 (sd_iret (ty := .int) rfl (by decide) (by decide) dX8_count_178)) (tb_cons (off := 121) (tgt := 169) (by decide) rfl (by decide) (sd_aload_n (i := 0) rfl dX8_count_169 (sd_getR clsX8 (f := 0) (by decide) (fun _ _ _ => rfl) mw_431 dX8_count_170 (sd_getI clsX7 (f := 10) (by decide) (fun _ _ _ => rfl) mw_172 dX8_count_173 (sd_iret (ty := .int) rfl (by decide) (by decide) dX8_count_176)))) (tb_nil)))))))))))))))) : Sd l E YX8_count (d + 1) 0 0 Q 0 0 47 (bX8_count_47 l E d Q)) ls st h hB
theorem eX8_count {l : Launch} {E : Ev} {d : Nat} {Q : Option Value → Hp → Prop} {h : Hp} {a0 : Nat} {x1 : Int32} (hk : Go l E YX8_count d 0 0 Q 0 0 0 [some (.ref a0), some (.int x1)] [] h) : GoM l E YX8_count d 0 0 [.ref a0, .int x1] h Q := GoM.of (by decide +kernel) rfl (by simp [entA, YX8_count]) hk
theorem dX8_status_0 : decode cX8_status 0 = .ok (.aload_n 0, 1) := by decide +kernel
theorem dX8_status_1 : decode cX8_status 1 = .ok (.getfield 317, 3) := by decide +kernel
theorem dX8_status_4 : decode cX8_status 4 = .ok (.ireturn, 1) := by decide +kernel
def bX8_status_0 (l : Launch) (E : Ev) (d : Nat) (Q : Option Value → Hp → Prop) : Kt := k_aload 0 (k_getI 8 19 9 (k_iret .int Q))
set_option maxRecDepth 100000 in
set_option maxHeartbeats 4000000 in
theorem gX8_status_0 {l : Launch} {E : Ev} {d : Nat} {Q : Option Value → Hp → Prop} {ls : Lv} {st : List Value} {h : Hp} (hB : bX8_status_0 l E d Q ls st h) : Go l E YX8_status (d + 1) 0 0 Q 0 0 0 ls st h :=
  (sd_aload_n (i := 0) rfl dX8_status_0 (sd_getI clsX8 (f := 9) (by decide) (fun _ _ _ => rfl) mw_440 dX8_status_1 (sd_iret (ty := .int) rfl (by decide) (by decide) dX8_status_4)) : Sd l E YX8_status (d + 1) 0 0 Q 0 0 0 (bX8_status_0 l E d Q)) ls st h hB
theorem eX8_status {l : Launch} {E : Ev} {d : Nat} {Q : Option Value → Hp → Prop} {h : Hp} {a0 : Nat} (hk : Go l E YX8_status d 0 0 Q 0 0 0 [some (.ref a0)] [] h) : GoM l E YX8_status d 0 0 [.ref a0] h Q := GoM.of (by decide +kernel) rfl (by simp [entA, YX8_status]) hk
theorem dX8_refuse_0 : decode cX8_refuse 0 = .ok (.aload_n 0, 1) := by decide +kernel
theorem dX8_refuse_1 : decode cX8_refuse 1 = .ok (.iload_n 1, 1) := by decide +kernel
theorem dX8_refuse_2 : decode cX8_refuse 2 = .ok (.putfield 317, 3) := by decide +kernel
theorem dX8_refuse_5 : decode cX8_refuse 5 = .ok (.iload_n 1, 1) := by decide +kernel
theorem dX8_refuse_6 : decode cX8_refuse 6 = .ok (.bipush (-5), 2) := by decide +kernel
theorem dX8_refuse_8 : decode cX8_refuse 8 = .ok (.if_icmp .le 10, 3) := by decide +kernel
theorem dX8_refuse_11 : decode cX8_refuse 11 = .ok (.iload_n 1, 1) := by decide +kernel
theorem dX8_refuse_12 : decode cX8_refuse 12 = .ok (.ineg, 1) := by decide +kernel
theorem dX8_refuse_13 : decode cX8_refuse 13 = .ok (.iconst 1, 1) := by decide +kernel
theorem dX8_refuse_14 : decode cX8_refuse 14 = .ok (.isub, 1) := by decide +kernel
theorem dX8_refuse_15 : decode cX8_refuse 15 = .ok (.goto 7, 3) := by decide +kernel
theorem dX8_refuse_18 : decode cX8_refuse 18 = .ok (.iload_n 1, 1) := by decide +kernel
theorem dX8_refuse_19 : decode cX8_refuse 19 = .ok (.ineg, 1) := by decide +kernel
theorem dX8_refuse_20 : decode cX8_refuse 20 = .ok (.iconst 2, 1) := by decide +kernel
theorem dX8_refuse_21 : decode cX8_refuse 21 = .ok (.isub, 1) := by decide +kernel
theorem dX8_refuse_22 : decode cX8_refuse 22 = .ok (.istore_n 2, 1) := by decide +kernel
theorem dX8_refuse_23 : decode cX8_refuse 23 = .ok (.aload_n 0, 1) := by decide +kernel
theorem dX8_refuse_24 : decode cX8_refuse 24 = .ok (.getfield 39, 3) := by decide +kernel
theorem dX8_refuse_27 : decode cX8_refuse 27 = .ok (.iload_n 2, 1) := by decide +kernel
theorem dX8_refuse_28 : decode cX8_refuse 28 = .ok (.dup2, 1) := by decide +kernel
theorem dX8_refuse_29 : decode cX8_refuse 29 = .ok (.iaload, 1) := by decide +kernel
theorem dX8_refuse_30 : decode cX8_refuse 30 = .ok (.iconst 1, 1) := by decide +kernel
theorem dX8_refuse_31 : decode cX8_refuse 31 = .ok (.iadd, 1) := by decide +kernel
theorem dX8_refuse_32 : decode cX8_refuse 32 = .ok (.iastore, 1) := by decide +kernel
theorem dX8_refuse_33 : decode cX8_refuse 33 = .ok (.iload_n 1, 1) := by decide +kernel
theorem dX8_refuse_34 : decode cX8_refuse 34 = .ok (.ireturn, 1) := by decide +kernel
def bX8_refuse_0 (l : Launch) (E : Ev) (d : Nat) (Q : Option Value → Hp → Prop) : Kt := k_aload 0 (k_iload 1 (k_putI 8 19 9 (k_iload 1 (k_push (.int (-5)) (k_icmp_le (k_iload 1 (k_ineg (k_push (.int 2) (k_isub (Go l E YX8_refuse (d + 1) 0 0 Q 0 0 22))))) (k_iload 1 (k_ineg (k_push (.int 1) (k_isub (Go l E YX8_refuse (d + 1) 0 0 Q 0 0 22))))))))))
set_option maxRecDepth 100000 in
set_option maxHeartbeats 4000000 in
theorem gX8_refuse_0 {l : Launch} {E : Ev} {d : Nat} {Q : Option Value → Hp → Prop} {ls : Lv} {st : List Value} {h : Hp} (hB : bX8_refuse_0 l E d Q ls st h) : Go l E YX8_refuse (d + 1) 0 0 Q 0 0 0 ls st h :=
  (sd_aload_n (i := 0) rfl dX8_refuse_0 (sd_iload_n (i := 1) rfl dX8_refuse_1 (sd_putI clsX8 (f := 9) (by decide) (fun _ _ _ => rfl) rfl (Or.inl rfl) mw_440 dX8_refuse_2 (sd_iload_n (i := 1) rfl dX8_refuse_5 (sd_bipush (v := (-5)) (by decide) dX8_refuse_6 (sd_icmp_le (tgt := 18) (by decide) dX8_refuse_8 (sd_iload_n (i := 1) rfl dX8_refuse_18 (sd_ineg dX8_refuse_19 (sd_iconst (v := 2) (by decide) dX8_refuse_20 (sd_isub dX8_refuse_21 (Sd.go))))) (sd_iload_n (i := 1) rfl dX8_refuse_11 (sd_ineg dX8_refuse_12 (sd_iconst (v := 1) (by decide) dX8_refuse_13 (sd_isub dX8_refuse_14 (sd_goto (tgt := 22) (by decide) dX8_refuse_15 (Sd.go))))))))))) : Sd l E YX8_refuse (d + 1) 0 0 Q 0 0 0 (bX8_refuse_0 l E d Q)) ls st h hB
def bX8_refuse_22 (l : Launch) (E : Ev) (d : Nat) (Q : Option Value → Hp → Prop) : Kt := k_istore 2 (k_aload 0 (k_getR 8 19 8 (k_iload 2 (k_dup2 (k_iaload (k_push (.int 1) (k_iadd (k_iastore (k_iload 1 (k_iret .int Q))))))))))
set_option maxRecDepth 100000 in
set_option maxHeartbeats 4000000 in
theorem gX8_refuse_22 {l : Launch} {E : Ev} {d : Nat} {Q : Option Value → Hp → Prop} {ls : Lv} {st : List Value} {h : Hp} (hB : bX8_refuse_22 l E d Q ls st h) : Go l E YX8_refuse (d + 1) 0 0 Q 0 0 22 ls st h :=
  (sd_istore_n (i := 2) rfl (by decide) dX8_refuse_22 (sd_aload_n (i := 0) rfl dX8_refuse_23 (sd_getR clsX8 (f := 8) (by decide) (fun _ _ _ => rfl) mw_439 dX8_refuse_24 (sd_iload_n (i := 2) rfl dX8_refuse_27 (sd_dup2 dX8_refuse_28 (sd_iaload dX8_refuse_29 (sd_iconst (v := 1) (by decide) dX8_refuse_30 (sd_iadd dX8_refuse_31 (sd_iastore dX8_refuse_32 (sd_iload_n (i := 1) rfl dX8_refuse_33 (sd_iret (ty := .int) rfl (by decide) (by decide) dX8_refuse_34)))))))))) : Sd l E YX8_refuse (d + 1) 0 0 Q 0 0 22 (bX8_refuse_22 l E d Q)) ls st h hB
theorem eX8_refuse {l : Launch} {E : Ev} {d : Nat} {Q : Option Value → Hp → Prop} {h : Hp} {a0 : Nat} {x1 : Int32} (hk : Go l E YX8_refuse d 0 0 Q 0 0 0 [some (.ref a0), some (.int x1), none] [] h) : GoM l E YX8_refuse d 0 0 [.ref a0, .int x1] h Q := GoM.of (by decide +kernel) rfl (by simp [entA, YX8_refuse]) hk
theorem dX8_accept_0 : decode cX8_accept 0 = .ok (.aload_n 0, 1) := by decide +kernel
theorem dX8_accept_1 : decode cX8_accept 1 = .ok (.iconst 0, 1) := by decide +kernel
theorem dX8_accept_2 : decode cX8_accept 2 = .ok (.putfield 317, 3) := by decide +kernel
theorem dX8_accept_5 : decode cX8_accept 5 = .ok (.aload_n 0, 1) := by decide +kernel
theorem dX8_accept_6 : decode cX8_accept 6 = .ok (.iconst 0, 1) := by decide +kernel
theorem dX8_accept_7 : decode cX8_accept 7 = .ok (.putfield 212, 3) := by decide +kernel
theorem dX8_accept_10 : decode cX8_accept 10 = .ok (.iload_n 1, 1) := by decide +kernel
theorem dX8_accept_11 : decode cX8_accept 11 = .ok (.ireturn, 1) := by decide +kernel
def bX8_accept_0 (l : Launch) (E : Ev) (d : Nat) (Q : Option Value → Hp → Prop) : Kt := k_aload 0 (k_push (.int 0) (k_putI 8 19 9 (k_aload 0 (k_push (.int 0) (k_putI 8 19 10 (k_iload 1 (k_iret .int Q)))))))
set_option maxRecDepth 100000 in
set_option maxHeartbeats 4000000 in
theorem gX8_accept_0 {l : Launch} {E : Ev} {d : Nat} {Q : Option Value → Hp → Prop} {ls : Lv} {st : List Value} {h : Hp} (hB : bX8_accept_0 l E d Q ls st h) : Go l E YX8_accept (d + 1) 0 0 Q 0 0 0 ls st h :=
  (sd_aload_n (i := 0) rfl dX8_accept_0 (sd_iconst (v := 0) (by decide) dX8_accept_1 (sd_putI clsX8 (f := 9) (by decide) (fun _ _ _ => rfl) rfl (Or.inl rfl) mw_440 dX8_accept_2 (sd_aload_n (i := 0) rfl dX8_accept_5 (sd_iconst (v := 0) (by decide) dX8_accept_6 (sd_putI clsX8 (f := 10) (by decide) (fun _ _ _ => rfl) rfl (Or.inl rfl) mw_441 dX8_accept_7 (sd_iload_n (i := 1) rfl dX8_accept_10 (sd_iret (ty := .int) rfl (by decide) (by decide) dX8_accept_11))))))) : Sd l E YX8_accept (d + 1) 0 0 Q 0 0 0 (bX8_accept_0 l E d Q)) ls st h hB
theorem eX8_accept {l : Launch} {E : Ev} {d : Nat} {Q : Option Value → Hp → Prop} {h : Hp} {a0 : Nat} {x1 : Int32} (hk : Go l E YX8_accept d 0 0 Q 0 0 0 [some (.ref a0), some (.int x1)] [] h) : GoM l E YX8_accept d 0 0 [.ref a0, .int x1] h Q := GoM.of (by decide +kernel) rfl (by simp [entA, YX8_accept]) hk
theorem dX8_actorFits_0 : decode cX8_actorFits 0 = .ok (.iload_n 0, 1) := by decide +kernel
theorem dX8_actorFits_1 : decode cX8_actorFits 1 = .ok (.ifCond .lt 30, 3) := by decide +kernel
theorem dX8_actorFits_4 : decode cX8_actorFits 4 = .ok (.iload_n 0, 1) := by decide +kernel
theorem dX8_actorFits_5 : decode cX8_actorFits 5 = .ok (.iconst 4, 1) := by decide +kernel
theorem dX8_actorFits_6 : decode cX8_actorFits 6 = .ok (.if_icmp .ge 25, 3) := by decide +kernel
theorem dX8_actorFits_9 : decode cX8_actorFits 9 = .ok (.iload_n 1, 1) := by decide +kernel
theorem dX8_actorFits_10 : decode cX8_actorFits 10 = .ok (.getstatic 320, 3) := by decide +kernel
theorem dX8_actorFits_13 : decode cX8_actorFits 13 = .ok (.iload_n 0, 1) := by decide +kernel
theorem dX8_actorFits_14 : decode cX8_actorFits 14 = .ok (.iaload, 1) := by decide +kernel
theorem dX8_actorFits_15 : decode cX8_actorFits 15 = .ok (.if_icmp .lt 16, 3) := by decide +kernel
theorem dX8_actorFits_18 : decode cX8_actorFits 18 = .ok (.iload_n 1, 1) := by decide +kernel
theorem dX8_actorFits_19 : decode cX8_actorFits 19 = .ok (.getstatic 323, 3) := by decide +kernel
theorem dX8_actorFits_22 : decode cX8_actorFits 22 = .ok (.iload_n 0, 1) := by decide +kernel
theorem dX8_actorFits_23 : decode cX8_actorFits 23 = .ok (.iaload, 1) := by decide +kernel
theorem dX8_actorFits_24 : decode cX8_actorFits 24 = .ok (.if_icmp .gt 7, 3) := by decide +kernel
theorem dX8_actorFits_27 : decode cX8_actorFits 27 = .ok (.iconst 1, 1) := by decide +kernel
theorem dX8_actorFits_28 : decode cX8_actorFits 28 = .ok (.goto 4, 3) := by decide +kernel
theorem dX8_actorFits_31 : decode cX8_actorFits 31 = .ok (.iconst 0, 1) := by decide +kernel
theorem dX8_actorFits_32 : decode cX8_actorFits 32 = .ok (.ireturn, 1) := by decide +kernel
def bX8_actorFits_0 (l : Launch) (E : Ev) (d : Nat) (Q : Option Value → Hp → Prop) : Kt := k_iload 0 (k_if_lt (k_push (.int 0) (k_iret .boolean Q)) (k_iload 0 (k_push (.int 4) (k_icmp_ge (k_push (.int 0) (k_iret .boolean Q)) (k_iload 1 (k_gets 0 (k_iload 0 (k_iaload (k_icmp_lt (k_push (.int 0) (k_iret .boolean Q)) (k_iload 1 (k_gets 1 (k_iload 0 (k_iaload (k_icmp_gt (k_push (.int 0) (k_iret .boolean Q)) (k_push (.int 1) (k_iret .boolean Q))))))))))))))))
set_option maxRecDepth 100000 in
set_option maxHeartbeats 4000000 in
theorem gX8_actorFits_0 {l : Launch} {E : Ev} {d : Nat} {Q : Option Value → Hp → Prop} {ls : Lv} {st : List Value} {h : Hp} (hB : bX8_actorFits_0 l E d Q ls st h) : Go l E YX8_actorFits (d + 1) 0 0 Q 0 0 0 ls st h :=
  (sd_iload_n (i := 0) rfl dX8_actorFits_0 (sd_if_lt (tgt := 31) (by decide) dX8_actorFits_1 (sd_iconst (v := 0) (by decide) dX8_actorFits_31 (sd_iret (ty := .boolean) rfl (by decide) (by decide) dX8_actorFits_32)) (sd_iload_n (i := 0) rfl dX8_actorFits_4 (sd_iconst (v := 4) (by decide) dX8_actorFits_5 (sd_icmp_ge (tgt := 31) (by decide) dX8_actorFits_6 (sd_iconst (v := 0) (by decide) dX8_actorFits_31 (sd_iret (ty := .boolean) rfl (by decide) (by decide) dX8_actorFits_32)) (sd_iload_n (i := 1) rfl dX8_actorFits_9 (sd_gets (q := 0) (by decide) (by decide) mw_496 dX8_actorFits_10 (sd_iload_n (i := 0) rfl dX8_actorFits_13 (sd_iaload dX8_actorFits_14 (sd_icmp_lt (tgt := 31) (by decide) dX8_actorFits_15 (sd_iconst (v := 0) (by decide) dX8_actorFits_31 (sd_iret (ty := .boolean) rfl (by decide) (by decide) dX8_actorFits_32)) (sd_iload_n (i := 1) rfl dX8_actorFits_18 (sd_gets (q := 1) (by decide) (by decide) mw_498 dX8_actorFits_19 (sd_iload_n (i := 0) rfl dX8_actorFits_22 (sd_iaload dX8_actorFits_23 (sd_icmp_gt (tgt := 31) (by decide) dX8_actorFits_24 (sd_iconst (v := 0) (by decide) dX8_actorFits_31 (sd_iret (ty := .boolean) rfl (by decide) (by decide) dX8_actorFits_32)) (sd_iconst (v := 1) (by decide) dX8_actorFits_27 (sd_goto (tgt := 32) (by decide) dX8_actorFits_28 (sd_iret (ty := .boolean) rfl (by decide) (by decide) dX8_actorFits_32))))))))))))))))) : Sd l E YX8_actorFits (d + 1) 0 0 Q 0 0 0 (bX8_actorFits_0 l E d Q)) ls st h hB
theorem eX8_actorFits {l : Launch} {E : Ev} {d : Nat} {Q : Option Value → Hp → Prop} {h : Hp} {x1 : Int32} {x2 : Int32} (hk : Go l E YX8_actorFits d 0 0 Q 0 0 0 [some (.int x1), some (.int x2)] [] h) : GoM l E YX8_actorFits d 0 0 [.int x1, .int x2] h Q := GoM.of (by decide +kernel) rfl (by simp [entA, YX8_actorFits]) hk
theorem dX8_partFits_0 : decode cX8_partFits 0 = .ok (.iload_n 0, 1) := by decide +kernel
theorem dX8_partFits_1 : decode cX8_partFits 1 = .ok (.ifCond .lt 25, 3) := by decide +kernel
theorem dX8_partFits_4 : decode cX8_partFits 4 = .ok (.iload_n 0, 1) := by decide +kernel
theorem dX8_partFits_5 : decode cX8_partFits 5 = .ok (.iconst 3, 1) := by decide +kernel
theorem dX8_partFits_6 : decode cX8_partFits 6 = .ok (.if_icmp .ge 20, 3) := by decide +kernel
theorem dX8_partFits_9 : decode cX8_partFits 9 = .ok (.iload_n 1, 1) := by decide +kernel
theorem dX8_partFits_10 : decode cX8_partFits 10 = .ok (.ifCond .lt 16, 3) := by decide +kernel
theorem dX8_partFits_13 : decode cX8_partFits 13 = .ok (.iload_n 1, 1) := by decide +kernel
theorem dX8_partFits_14 : decode cX8_partFits 14 = .ok (.getstatic 326, 3) := by decide +kernel
theorem dX8_partFits_17 : decode cX8_partFits 17 = .ok (.iload_n 0, 1) := by decide +kernel
theorem dX8_partFits_18 : decode cX8_partFits 18 = .ok (.iaload, 1) := by decide +kernel
theorem dX8_partFits_19 : decode cX8_partFits 19 = .ok (.if_icmp .gt 7, 3) := by decide +kernel
theorem dX8_partFits_22 : decode cX8_partFits 22 = .ok (.iconst 1, 1) := by decide +kernel
theorem dX8_partFits_23 : decode cX8_partFits 23 = .ok (.goto 4, 3) := by decide +kernel
theorem dX8_partFits_26 : decode cX8_partFits 26 = .ok (.iconst 0, 1) := by decide +kernel
theorem dX8_partFits_27 : decode cX8_partFits 27 = .ok (.ireturn, 1) := by decide +kernel
def bX8_partFits_0 (l : Launch) (E : Ev) (d : Nat) (Q : Option Value → Hp → Prop) : Kt := k_iload 0 (k_if_lt (k_push (.int 0) (k_iret .boolean Q)) (k_iload 0 (k_push (.int 3) (k_icmp_ge (k_push (.int 0) (k_iret .boolean Q)) (k_iload 1 (k_if_lt (k_push (.int 0) (k_iret .boolean Q)) (k_iload 1 (k_gets 2 (k_iload 0 (k_iaload (k_icmp_gt (k_push (.int 0) (k_iret .boolean Q)) (k_push (.int 1) (k_iret .boolean Q)))))))))))))
set_option maxRecDepth 100000 in
set_option maxHeartbeats 4000000 in
theorem gX8_partFits_0 {l : Launch} {E : Ev} {d : Nat} {Q : Option Value → Hp → Prop} {ls : Lv} {st : List Value} {h : Hp} (hB : bX8_partFits_0 l E d Q ls st h) : Go l E YX8_partFits (d + 1) 0 0 Q 0 0 0 ls st h :=
  (sd_iload_n (i := 0) rfl dX8_partFits_0 (sd_if_lt (tgt := 26) (by decide) dX8_partFits_1 (sd_iconst (v := 0) (by decide) dX8_partFits_26 (sd_iret (ty := .boolean) rfl (by decide) (by decide) dX8_partFits_27)) (sd_iload_n (i := 0) rfl dX8_partFits_4 (sd_iconst (v := 3) (by decide) dX8_partFits_5 (sd_icmp_ge (tgt := 26) (by decide) dX8_partFits_6 (sd_iconst (v := 0) (by decide) dX8_partFits_26 (sd_iret (ty := .boolean) rfl (by decide) (by decide) dX8_partFits_27)) (sd_iload_n (i := 1) rfl dX8_partFits_9 (sd_if_lt (tgt := 26) (by decide) dX8_partFits_10 (sd_iconst (v := 0) (by decide) dX8_partFits_26 (sd_iret (ty := .boolean) rfl (by decide) (by decide) dX8_partFits_27)) (sd_iload_n (i := 1) rfl dX8_partFits_13 (sd_gets (q := 2) (by decide) (by decide) mw_515 dX8_partFits_14 (sd_iload_n (i := 0) rfl dX8_partFits_17 (sd_iaload dX8_partFits_18 (sd_icmp_gt (tgt := 26) (by decide) dX8_partFits_19 (sd_iconst (v := 0) (by decide) dX8_partFits_26 (sd_iret (ty := .boolean) rfl (by decide) (by decide) dX8_partFits_27)) (sd_iconst (v := 1) (by decide) dX8_partFits_22 (sd_goto (tgt := 27) (by decide) dX8_partFits_23 (sd_iret (ty := .boolean) rfl (by decide) (by decide) dX8_partFits_27)))))))))))))) : Sd l E YX8_partFits (d + 1) 0 0 Q 0 0 0 (bX8_partFits_0 l E d Q)) ls st h hB
theorem eX8_partFits {l : Launch} {E : Ev} {d : Nat} {Q : Option Value → Hp → Prop} {h : Hp} {x1 : Int32} {x2 : Int32} (hk : Go l E YX8_partFits d 0 0 Q 0 0 0 [some (.int x1), some (.int x2)] [] h) : GoM l E YX8_partFits d 0 0 [.int x1, .int x2] h Q := GoM.of (by decide +kernel) rfl (by simp [entA, YX8_partFits]) hk
theorem dX8_within_0 : decode cX8_within 0 = .ok (.iload_n 0, 1) := by decide +kernel
theorem dX8_within_1 : decode cX8_within 1 = .ok (.iconst (-1), 1) := by decide +kernel
theorem dX8_within_2 : decode cX8_within 2 = .ok (.iload_n 1, 1) := by decide +kernel
theorem dX8_within_3 : decode cX8_within 3 = .ok (.ishl, 1) := by decide +kernel
theorem dX8_within_4 : decode cX8_within 4 = .ok (.iand, 1) := by decide +kernel
theorem dX8_within_5 : decode cX8_within 5 = .ok (.ifCond .ne 7, 3) := by decide +kernel
theorem dX8_within_8 : decode cX8_within 8 = .ok (.iconst 1, 1) := by decide +kernel
theorem dX8_within_9 : decode cX8_within 9 = .ok (.goto 4, 3) := by decide +kernel
theorem dX8_within_12 : decode cX8_within 12 = .ok (.iconst 0, 1) := by decide +kernel
theorem dX8_within_13 : decode cX8_within 13 = .ok (.ireturn, 1) := by decide +kernel
def bX8_within_0 (l : Launch) (E : Ev) (d : Nat) (Q : Option Value → Hp → Prop) : Kt := k_iload 0 (k_push (.int (-1)) (k_iload 1 (k_ishl (k_iand (k_if_ne (k_push (.int 0) (k_iret .boolean Q)) (k_push (.int 1) (k_iret .boolean Q)))))))
set_option maxRecDepth 100000 in
set_option maxHeartbeats 4000000 in
theorem gX8_within_0 {l : Launch} {E : Ev} {d : Nat} {Q : Option Value → Hp → Prop} {ls : Lv} {st : List Value} {h : Hp} (hB : bX8_within_0 l E d Q ls st h) : Go l E YX8_within (d + 1) 0 0 Q 0 0 0 ls st h :=
  (sd_iload_n (i := 0) rfl dX8_within_0 (sd_iconst (v := (-1)) (by decide) dX8_within_1 (sd_iload_n (i := 1) rfl dX8_within_2 (sd_ishl dX8_within_3 (sd_iand dX8_within_4 (sd_if_ne (tgt := 12) (by decide) dX8_within_5 (sd_iconst (v := 0) (by decide) dX8_within_12 (sd_iret (ty := .boolean) rfl (by decide) (by decide) dX8_within_13)) (sd_iconst (v := 1) (by decide) dX8_within_8 (sd_goto (tgt := 13) (by decide) dX8_within_9 (sd_iret (ty := .boolean) rfl (by decide) (by decide) dX8_within_13)))))))) : Sd l E YX8_within (d + 1) 0 0 Q 0 0 0 (bX8_within_0 l E d Q)) ls st h hB
theorem eX8_within {l : Launch} {E : Ev} {d : Nat} {Q : Option Value → Hp → Prop} {h : Hp} {x1 : Int32} {x2 : Int32} (hk : Go l E YX8_within d 0 0 Q 0 0 0 [some (.int x1), some (.int x2)] [] h) : GoM l E YX8_within d 0 0 [.int x1, .int x2] h Q := GoM.of (by decide +kernel) rfl (by simp [entA, YX8_within]) hk
theorem dX8_putFour_0 : decode cX8_putFour 0 = .ok (.bipush 24, 2) := by decide +kernel
theorem dX8_putFour_2 : decode cX8_putFour 2 = .ok (.istore_n 2, 1) := by decide +kernel
theorem dX8_putFour_3 : decode cX8_putFour 3 = .ok (.iload_n 2, 1) := by decide +kernel
theorem dX8_putFour_4 : decode cX8_putFour 4 = .ok (.ifCond .lt 45, 3) := by decide +kernel
theorem dX8_putFour_7 : decode cX8_putFour 7 = .ok (.aload_n 0, 1) := by decide +kernel
theorem dX8_putFour_8 : decode cX8_putFour 8 = .ok (.getfield 154, 3) := by decide +kernel
theorem dX8_putFour_11 : decode cX8_putFour 11 = .ok (.sipush 400, 3) := by decide +kernel
theorem dX8_putFour_14 : decode cX8_putFour 14 = .ok (.if_icmp .ge 35, 3) := by decide +kernel
theorem dX8_putFour_17 : decode cX8_putFour 17 = .ok (.aload_n 0, 1) := by decide +kernel
theorem dX8_putFour_18 : decode cX8_putFour 18 = .ok (.getfield 24, 3) := by decide +kernel
theorem dX8_putFour_21 : decode cX8_putFour 21 = .ok (.aload_n 0, 1) := by decide +kernel
theorem dX8_putFour_22 : decode cX8_putFour 22 = .ok (.getfield 154, 3) := by decide +kernel
theorem dX8_putFour_25 : decode cX8_putFour 25 = .ok (.iload_n 1, 1) := by decide +kernel
theorem dX8_putFour_26 : decode cX8_putFour 26 = .ok (.iload_n 2, 1) := by decide +kernel
theorem dX8_putFour_27 : decode cX8_putFour 27 = .ok (.ishr, 1) := by decide +kernel
theorem dX8_putFour_28 : decode cX8_putFour 28 = .ok (.sipush 255, 3) := by decide +kernel
theorem dX8_putFour_31 : decode cX8_putFour 31 = .ok (.iand, 1) := by decide +kernel
theorem dX8_putFour_32 : decode cX8_putFour 32 = .ok (.iastore, 1) := by decide +kernel
theorem dX8_putFour_33 : decode cX8_putFour 33 = .ok (.aload_n 0, 1) := by decide +kernel
theorem dX8_putFour_34 : decode cX8_putFour 34 = .ok (.dup, 1) := by decide +kernel
theorem dX8_putFour_35 : decode cX8_putFour 35 = .ok (.getfield 154, 3) := by decide +kernel
theorem dX8_putFour_38 : decode cX8_putFour 38 = .ok (.iconst 1, 1) := by decide +kernel
theorem dX8_putFour_39 : decode cX8_putFour 39 = .ok (.iadd, 1) := by decide +kernel
theorem dX8_putFour_40 : decode cX8_putFour 40 = .ok (.putfield 154, 3) := by decide +kernel
theorem dX8_putFour_43 : decode cX8_putFour 43 = .ok (.iinc 2 (-8), 3) := by decide +kernel
theorem dX8_putFour_46 : decode cX8_putFour 46 = .ok (.goto (-43), 3) := by decide +kernel
theorem dX8_putFour_49 : decode cX8_putFour 49 = .ok (.return_, 1) := by decide +kernel
def bX8_putFour_0 (l : Launch) (E : Ev) (d : Nat) (Q : Option Value → Hp → Prop) : Kt := k_push (.int 24) (k_istore 2 (Go l E YX8_putFour (d + 1) 0 0 Q 0 0 3))
set_option maxRecDepth 100000 in
set_option maxHeartbeats 4000000 in
theorem gX8_putFour_0 {l : Launch} {E : Ev} {d : Nat} {Q : Option Value → Hp → Prop} {ls : Lv} {st : List Value} {h : Hp} (hB : bX8_putFour_0 l E d Q ls st h) : Go l E YX8_putFour (d + 1) 0 0 Q 0 0 0 ls st h :=
  (sd_bipush (v := 24) (by decide) dX8_putFour_0 (sd_istore_n (i := 2) rfl (by decide) dX8_putFour_2 (Sd.go)) : Sd l E YX8_putFour (d + 1) 0 0 Q 0 0 0 (bX8_putFour_0 l E d Q)) ls st h hB
def bX8_putFour_3 (l : Launch) (E : Ev) (d : Nat) (Q : Option Value → Hp → Prop) : Kt := k_iload 2 (k_if_lt (k_vret Q) (k_aload 0 (k_getI 8 19 4 (k_push (.int 400) (k_icmp_ge (k_vret Q) (k_aload 0 (k_getR 8 19 3 (k_aload 0 (k_getI 8 19 4 (k_iload 1 (k_iload 2 (k_ishr (k_push (.int 255) (k_iand (k_iastore (k_aload 0 (k_dup (k_getI 8 19 4 (k_push (.int 1) (k_iadd (k_putI 8 19 4 (k_iinc 2 (-8) (Go l E YX8_putFour (d + 1) 0 0 Q 0 0 3)))))))))))))))))))))))
set_option maxRecDepth 100000 in
set_option maxHeartbeats 4000000 in
theorem gX8_putFour_3 {l : Launch} {E : Ev} {d : Nat} {Q : Option Value → Hp → Prop} {ls : Lv} {st : List Value} {h : Hp} (hB : bX8_putFour_3 l E d Q ls st h) : Go l E YX8_putFour (d + 1) 0 0 Q 0 0 3 ls st h :=
  (sd_iload_n (i := 2) rfl dX8_putFour_3 (sd_if_lt (tgt := 49) (by decide) dX8_putFour_4 (sd_vret rfl (by decide) (by decide) dX8_putFour_49) (sd_aload_n (i := 0) rfl dX8_putFour_7 (sd_getI clsX8 (f := 4) (by decide) (fun _ _ _ => rfl) mw_435 dX8_putFour_8 (sd_sipush (v := 400) (by decide) dX8_putFour_11 (sd_icmp_ge (tgt := 49) (by decide) dX8_putFour_14 (sd_vret rfl (by decide) (by decide) dX8_putFour_49) (sd_aload_n (i := 0) rfl dX8_putFour_17 (sd_getR clsX8 (f := 3) (by decide) (fun _ _ _ => rfl) mw_434 dX8_putFour_18 (sd_aload_n (i := 0) rfl dX8_putFour_21 (sd_getI clsX8 (f := 4) (by decide) (fun _ _ _ => rfl) mw_435 dX8_putFour_22 (sd_iload_n (i := 1) rfl dX8_putFour_25 (sd_iload_n (i := 2) rfl dX8_putFour_26 (sd_ishr dX8_putFour_27 (sd_sipush (v := 255) (by decide) dX8_putFour_28 (sd_iand dX8_putFour_31 (sd_iastore dX8_putFour_32 (sd_aload_n (i := 0) rfl dX8_putFour_33 (sd_dup dX8_putFour_34 (sd_getI clsX8 (f := 4) (by decide) (fun _ _ _ => rfl) mw_435 dX8_putFour_35 (sd_iconst (v := 1) (by decide) dX8_putFour_38 (sd_iadd dX8_putFour_39 (sd_putI clsX8 (f := 4) (by decide) (fun _ _ _ => rfl) rfl (Or.inl rfl) mw_435 dX8_putFour_40 (sd_iinc (i := 2) (v := (-8)) (by decide) (by decide) dX8_putFour_43 (sd_goto (tgt := 3) (by decide) dX8_putFour_46 (Sd.go)))))))))))))))))))))))) : Sd l E YX8_putFour (d + 1) 0 0 Q 0 0 3 (bX8_putFour_3 l E d Q)) ls st h hB
theorem eX8_putFour {l : Launch} {E : Ev} {d : Nat} {Q : Option Value → Hp → Prop} {h : Hp} {a0 : Nat} {x1 : Int32} (hk : Go l E YX8_putFour d 0 0 Q 0 0 0 [some (.ref a0), some (.int x1), none] [] h) : GoM l E YX8_putFour d 0 0 [.ref a0, .int x1] h Q := GoM.of (by decide +kernel) rfl (by simp [entA, YX8_putFour]) hk
theorem dX8_renew_0 : decode cX8_renew 0 = .ok (.iload_n 1, 1) := by decide +kernel
theorem dX8_renew_1 : decode cX8_renew 1 = .ok (.iconst 1, 1) := by decide +kernel
theorem dX8_renew_2 : decode cX8_renew 2 = .ok (.ior, 1) := by decide +kernel
theorem dX8_renew_3 : decode cX8_renew 3 = .ok (.aload_n 0, 1) := by decide +kernel
theorem dX8_renew_4 : decode cX8_renew 4 = .ok (.getfield 212, 3) := by decide +kernel
theorem dX8_renew_7 : decode cX8_renew 7 = .ok (.iconst (-1), 1) := by decide +kernel
theorem dX8_renew_8 : decode cX8_renew 8 = .ok (.ixor, 1) := by decide +kernel
theorem dX8_renew_9 : decode cX8_renew 9 = .ok (.iand, 1) := by decide +kernel
theorem dX8_renew_10 : decode cX8_renew 10 = .ok (.istore_n 2, 1) := by decide +kernel
theorem dX8_renew_11 : decode cX8_renew 11 = .ok (.iload_n 2, 1) := by decide +kernel
theorem dX8_renew_12 : decode cX8_renew 12 = .ok (.iconst 1, 1) := by decide +kernel
theorem dX8_renew_13 : decode cX8_renew 13 = .ok (.iand, 1) := by decide +kernel
theorem dX8_renew_14 : decode cX8_renew 14 = .ok (.ifCond .eq 57, 3) := by decide +kernel
theorem dX8_renew_17 : decode cX8_renew 17 = .ok (.aload_n 0, 1) := by decide +kernel
theorem dX8_renew_18 : decode cX8_renew 18 = .ok (.getfield 45, 3) := by decide +kernel
theorem dX8_renew_21 : decode cX8_renew 21 = .ok (.aload_n 0, 1) := by decide +kernel
theorem dX8_renew_22 : decode cX8_renew 22 = .ok (.getfield 10, 3) := by decide +kernel
theorem dX8_renew_25 : decode cX8_renew 25 = .ok (.aload_n 0, 1) := by decide +kernel
theorem dX8_renew_26 : decode cX8_renew 26 = .ok (.getfield 10, 3) := by decide +kernel
theorem dX8_renew_29 : decode cX8_renew 29 = .ok (.getfield 124, 3) := by decide +kernel
theorem dX8_renew_32 : decode cX8_renew 32 = .ok (.aload_n 0, 1) := by decide +kernel
theorem dX8_renew_33 : decode cX8_renew 33 = .ok (.getfield 10, 3) := by decide +kernel
theorem dX8_renew_36 : decode cX8_renew 36 = .ok (.getfield 127, 3) := by decide +kernel
theorem dX8_renew_39 : decode cX8_renew 39 = .ok (.iconst 2, 1) := by decide +kernel
theorem dX8_renew_40 : decode cX8_renew 40 = .ok (.iaload, 1) := by decide +kernel
theorem dX8_renew_41 : decode cX8_renew 41 = .ok (.invokevirtual 329, 3) := by decide +kernel
theorem dX8_renew_44 : decode cX8_renew 44 = .ok (.aload_n 0, 1) := by decide +kernel
theorem dX8_renew_45 : decode cX8_renew 45 = .ok (.getfield 45, 3) := by decide +kernel
theorem dX8_renew_48 : decode cX8_renew 48 = .ok (.aload_n 0, 1) := by decide +kernel
theorem dX8_renew_49 : decode cX8_renew 49 = .ok (.getfield 10, 3) := by decide +kernel
theorem dX8_renew_52 : decode cX8_renew 52 = .ok (.aload_n 0, 1) := by decide +kernel
theorem dX8_renew_53 : decode cX8_renew 53 = .ok (.getfield 10, 3) := by decide +kernel
theorem dX8_renew_56 : decode cX8_renew 56 = .ok (.getfield 124, 3) := by decide +kernel
theorem dX8_renew_59 : decode cX8_renew 59 = .ok (.aload_n 0, 1) := by decide +kernel
theorem dX8_renew_60 : decode cX8_renew 60 = .ok (.getfield 10, 3) := by decide +kernel
theorem dX8_renew_63 : decode cX8_renew 63 = .ok (.getfield 127, 3) := by decide +kernel
theorem dX8_renew_66 : decode cX8_renew 66 = .ok (.iconst 2, 1) := by decide +kernel
theorem dX8_renew_67 : decode cX8_renew 67 = .ok (.iaload, 1) := by decide +kernel
theorem dX8_renew_68 : decode cX8_renew 68 = .ok (.invokevirtual 333, 3) := by decide +kernel
theorem dX8_renew_71 : decode cX8_renew 71 = .ok (.iload_n 2, 1) := by decide +kernel
theorem dX8_renew_72 : decode cX8_renew 72 = .ok (.iconst 2, 1) := by decide +kernel
theorem dX8_renew_73 : decode cX8_renew 73 = .ok (.iand, 1) := by decide +kernel
theorem dX8_renew_74 : decode cX8_renew 74 = .ok (.ifCond .eq 25, 3) := by decide +kernel
theorem dX8_renew_77 : decode cX8_renew 77 = .ok (.aload_n 0, 1) := by decide +kernel
theorem dX8_renew_78 : decode cX8_renew 78 = .ok (.aload_n 0, 1) := by decide +kernel
theorem dX8_renew_79 : decode cX8_renew 79 = .ok (.getfield 57, 3) := by decide +kernel
theorem dX8_renew_82 : decode cX8_renew 82 = .ok (.aload_n 0, 1) := by decide +kernel
theorem dX8_renew_83 : decode cX8_renew 83 = .ok (.getfield 45, 3) := by decide +kernel
theorem dX8_renew_86 : decode cX8_renew 86 = .ok (.aload_n 0, 1) := by decide +kernel
theorem dX8_renew_87 : decode cX8_renew 87 = .ok (.getfield 10, 3) := by decide +kernel
theorem dX8_renew_90 : decode cX8_renew 90 = .ok (.getfield 148, 3) := by decide +kernel
theorem dX8_renew_93 : decode cX8_renew 93 = .ok (.invokevirtual 252, 3) := by decide +kernel
theorem dX8_renew_96 : decode cX8_renew 96 = .ok (.putfield 184, 3) := by decide +kernel
theorem dX8_renew_99 : decode cX8_renew 99 = .ok (.iload_n 2, 1) := by decide +kernel
theorem dX8_renew_100 : decode cX8_renew 100 = .ok (.iconst 4, 1) := by decide +kernel
theorem dX8_renew_101 : decode cX8_renew 101 = .ok (.iand, 1) := by decide +kernel
theorem dX8_renew_102 : decode cX8_renew 102 = .ok (.ifCond .eq 21, 3) := by decide +kernel
theorem dX8_renew_105 : decode cX8_renew 105 = .ok (.aload_n 0, 1) := by decide +kernel
theorem dX8_renew_106 : decode cX8_renew 106 = .ok (.getfield 57, 3) := by decide +kernel
theorem dX8_renew_109 : decode cX8_renew 109 = .ok (.aload_n 0, 1) := by decide +kernel
theorem dX8_renew_110 : decode cX8_renew 110 = .ok (.getfield 45, 3) := by decide +kernel
theorem dX8_renew_113 : decode cX8_renew 113 = .ok (.aload_n 0, 1) := by decide +kernel
theorem dX8_renew_114 : decode cX8_renew 114 = .ok (.getfield 10, 3) := by decide +kernel
theorem dX8_renew_117 : decode cX8_renew 117 = .ok (.getfield 148, 3) := by decide +kernel
theorem dX8_renew_120 : decode cX8_renew 120 = .ok (.invokevirtual 336, 3) := by decide +kernel
theorem dX8_renew_123 : decode cX8_renew 123 = .ok (.iload_n 2, 1) := by decide +kernel
theorem dX8_renew_124 : decode cX8_renew 124 = .ok (.bipush 8, 2) := by decide +kernel
theorem dX8_renew_126 : decode cX8_renew 126 = .ok (.iand, 1) := by decide +kernel
theorem dX8_renew_127 : decode cX8_renew 127 = .ok (.ifCond .eq 14, 3) := by decide +kernel
theorem dX8_renew_130 : decode cX8_renew 130 = .ok (.aload_n 0, 1) := by decide +kernel
theorem dX8_renew_131 : decode cX8_renew 131 = .ok (.getfield 64, 3) := by decide +kernel
theorem dX8_renew_134 : decode cX8_renew 134 = .ok (.aload_n 0, 1) := by decide +kernel
theorem dX8_renew_135 : decode cX8_renew 135 = .ok (.getfield 45, 3) := by decide +kernel
theorem dX8_renew_138 : decode cX8_renew 138 = .ok (.invokevirtual 340, 3) := by decide +kernel
theorem dX8_renew_141 : decode cX8_renew 141 = .ok (.aload_n 0, 1) := by decide +kernel
theorem dX8_renew_142 : decode cX8_renew 142 = .ok (.dup, 1) := by decide +kernel
theorem dX8_renew_143 : decode cX8_renew 143 = .ok (.getfield 212, 3) := by decide +kernel
theorem dX8_renew_146 : decode cX8_renew 146 = .ok (.iload_n 2, 1) := by decide +kernel
theorem dX8_renew_147 : decode cX8_renew 147 = .ok (.ior, 1) := by decide +kernel
theorem dX8_renew_148 : decode cX8_renew 148 = .ok (.putfield 212, 3) := by decide +kernel
theorem dX8_renew_151 : decode cX8_renew 151 = .ok (.return_, 1) := by decide +kernel
def bX8_renew_0 (l : Launch) (E : Ev) (d : Nat) (Q : Option Value → Hp → Prop) : Kt := k_iload 1 (k_push (.int 1) (k_ior (k_aload 0 (k_getI 8 19 10 (k_push (.int (-1)) (k_ixor (k_iand (k_istore 2 (k_iload 2 (k_push (.int 1) (k_iand (k_if_eq (Go l E YX8_renew (d + 1) 0 0 Q 0 0 71) (k_aload 0 (k_getR 8 19 11 (k_aload 0 (k_getR 8 19 0 (k_aload 0 (k_getR 8 19 0 (k_getR 7 15 5 (k_aload 0 (k_getR 8 19 0 (k_getR 7 15 7 (k_push (.int 2) (k_iaload (k_callV l E 0 7 YX0_fillAble d 0 0 3 (k_aload 0 (k_getR 8 19 11 (k_aload 0 (k_getR 8 19 0 (k_aload 0 (k_getR 8 19 0 (k_getR 7 15 5 (k_aload 0 (k_getR 8 19 0 (k_getR 7 15 7 (k_push (.int 2) (k_iaload (k_callV l E 0 7 YX0_fillCosts d 0 0 3 (Go l E YX8_renew (d + 1) 0 0 Q 0 0 71)))))))))))))))))))))))))))))))))))))))
set_option maxRecDepth 100000 in
set_option maxHeartbeats 4000000 in
theorem gX8_renew_0 {l : Launch} {E : Ev} {d : Nat} {Q : Option Value → Hp → Prop} {ls : Lv} {st : List Value} {h : Hp} (hB : bX8_renew_0 l E d Q ls st h) : Go l E YX8_renew (d + 1) 0 0 Q 0 0 0 ls st h :=
  (sd_iload_n (i := 1) rfl dX8_renew_0 (sd_iconst (v := 1) (by decide) dX8_renew_1 (sd_ior dX8_renew_2 (sd_aload_n (i := 0) rfl dX8_renew_3 (sd_getI clsX8 (f := 10) (by decide) (fun _ _ _ => rfl) mw_441 dX8_renew_4 (sd_iconst (v := (-1)) (by decide) dX8_renew_7 (sd_ixor dX8_renew_8 (sd_iand dX8_renew_9 (sd_istore_n (i := 2) rfl (by decide) dX8_renew_10 (sd_iload_n (i := 2) rfl dX8_renew_11 (sd_iconst (v := 1) (by decide) dX8_renew_12 (sd_iand dX8_renew_13 (sd_if_eq (tgt := 71) (by decide) dX8_renew_14 (Sd.go) (sd_aload_n (i := 0) rfl dX8_renew_17 (sd_getR clsX8 (f := 11) (by decide) (fun _ _ _ => rfl) mw_442 dX8_renew_18 (sd_aload_n (i := 0) rfl dX8_renew_21 (sd_getR clsX8 (f := 0) (by decide) (fun _ _ _ => rfl) mw_431 dX8_renew_22 (sd_aload_n (i := 0) rfl dX8_renew_25 (sd_getR clsX8 (f := 0) (by decide) (fun _ _ _ => rfl) mw_431 dX8_renew_26 (sd_getR clsX7 (f := 5) (by decide) (fun _ _ _ => rfl) mw_159 dX8_renew_29 (sd_aload_n (i := 0) rfl dX8_renew_32 (sd_getR clsX8 (f := 0) (by decide) (fun _ _ _ => rfl) mw_431 dX8_renew_33 (sd_getR clsX7 (f := 7) (by decide) (fun _ _ _ => rfl) mw_166 dX8_renew_36 (sd_iconst (v := 2) (by decide) dX8_renew_39 (sd_iaload dX8_renew_40 (sd_callV (Y' := YX0_fillAble) (mc' := 0) (ms' := 0) (n := 3) clsX0.1 mw_776 mw_777 mw_778 mw_103 mw_779 rfl (okmX0_fillAble) (by decide) (Nat.le_refl _) (by decide) (by decide) dX8_renew_41 (sd_aload_n (i := 0) rfl dX8_renew_44 (sd_getR clsX8 (f := 11) (by decide) (fun _ _ _ => rfl) mw_442 dX8_renew_45 (sd_aload_n (i := 0) rfl dX8_renew_48 (sd_getR clsX8 (f := 0) (by decide) (fun _ _ _ => rfl) mw_431 dX8_renew_49 (sd_aload_n (i := 0) rfl dX8_renew_52 (sd_getR clsX8 (f := 0) (by decide) (fun _ _ _ => rfl) mw_431 dX8_renew_53 (sd_getR clsX7 (f := 5) (by decide) (fun _ _ _ => rfl) mw_159 dX8_renew_56 (sd_aload_n (i := 0) rfl dX8_renew_59 (sd_getR clsX8 (f := 0) (by decide) (fun _ _ _ => rfl) mw_431 dX8_renew_60 (sd_getR clsX7 (f := 7) (by decide) (fun _ _ _ => rfl) mw_166 dX8_renew_63 (sd_iconst (v := 2) (by decide) dX8_renew_66 (sd_iaload dX8_renew_67 (sd_callV (Y' := YX0_fillCosts) (mc' := 0) (ms' := 0) (n := 3) clsX0.1 mw_785 mw_786 mw_787 mw_103 mw_788 rfl (okmX0_fillCosts) (by decide) (Nat.le_refl _) (by decide) (by decide) dX8_renew_68 (Sd.go))))))))))))))))))))))))))))))))))))))) : Sd l E YX8_renew (d + 1) 0 0 Q 0 0 0 (bX8_renew_0 l E d Q)) ls st h hB
def bX8_renew_71 (l : Launch) (E : Ev) (d : Nat) (Q : Option Value → Hp → Prop) : Kt := k_iload 2 (k_push (.int 2) (k_iand (k_if_eq (Go l E YX8_renew (d + 1) 0 0 Q 0 0 99) (k_aload 0 (k_aload 0 (k_getR 8 19 13 (k_aload 0 (k_getR 8 19 11 (k_aload 0 (k_getR 8 19 0 (k_getI 7 15 6 (k_callV l E 3 10 YX3_firstOf d 0 0 2 (k_putJ 8 19 18 (Go l E YX8_renew (d + 1) 0 0 Q 0 0 99))))))))))))))
set_option maxRecDepth 100000 in
set_option maxHeartbeats 4000000 in
theorem gX8_renew_71 {l : Launch} {E : Ev} {d : Nat} {Q : Option Value → Hp → Prop} {ls : Lv} {st : List Value} {h : Hp} (hB : bX8_renew_71 l E d Q ls st h) : Go l E YX8_renew (d + 1) 0 0 Q 0 0 71 ls st h :=
  (sd_iload_n (i := 2) rfl dX8_renew_71 (sd_iconst (v := 2) (by decide) dX8_renew_72 (sd_iand dX8_renew_73 (sd_if_eq (tgt := 99) (by decide) dX8_renew_74 (Sd.go) (sd_aload_n (i := 0) rfl dX8_renew_77 (sd_aload_n (i := 0) rfl dX8_renew_78 (sd_getR clsX8 (f := 13) (by decide) (fun _ _ _ => rfl) mw_444 dX8_renew_79 (sd_aload_n (i := 0) rfl dX8_renew_82 (sd_getR clsX8 (f := 11) (by decide) (fun _ _ _ => rfl) mw_442 dX8_renew_83 (sd_aload_n (i := 0) rfl dX8_renew_86 (sd_getR clsX8 (f := 0) (by decide) (fun _ _ _ => rfl) mw_431 dX8_renew_87 (sd_getI clsX7 (f := 6) (by decide) (fun _ _ _ => rfl) mw_161 dX8_renew_90 (sd_callV (Y' := YX3_firstOf) (mc' := 0) (ms' := 0) (n := 2) clsX3.1 mw_790 mw_791 mw_792 mw_104 mw_793 rfl (okmX3_firstOf) (by decide) (Nat.le_refl _) (by decide) (by decide) dX8_renew_93 (sd_putJ clsX8 (f := 18) (by decide) (fun _ _ _ => rfl) rfl (Or.inl rfl) mw_449 dX8_renew_96 (Sd.go)))))))))))))) : Sd l E YX8_renew (d + 1) 0 0 Q 0 0 71 (bX8_renew_71 l E d Q)) ls st h hB
def bX8_renew_99 (l : Launch) (E : Ev) (d : Nat) (Q : Option Value → Hp → Prop) : Kt := k_iload 2 (k_push (.int 4) (k_iand (k_if_eq (Go l E YX8_renew (d + 1) 0 0 Q 0 0 123) (k_aload 0 (k_getR 8 19 13 (k_aload 0 (k_getR 8 19 11 (k_aload 0 (k_getR 8 19 0 (k_getI 7 15 6 (k_callV l E 3 10 YX3_tallyAll d 0 0 2 (Go l E YX8_renew (d + 1) 0 0 Q 0 0 123))))))))))))
set_option maxRecDepth 100000 in
set_option maxHeartbeats 4000000 in
theorem gX8_renew_99 {l : Launch} {E : Ev} {d : Nat} {Q : Option Value → Hp → Prop} {ls : Lv} {st : List Value} {h : Hp} (hB : bX8_renew_99 l E d Q ls st h) : Go l E YX8_renew (d + 1) 0 0 Q 0 0 99 ls st h :=
  (sd_iload_n (i := 2) rfl dX8_renew_99 (sd_iconst (v := 4) (by decide) dX8_renew_100 (sd_iand dX8_renew_101 (sd_if_eq (tgt := 123) (by decide) dX8_renew_102 (Sd.go) (sd_aload_n (i := 0) rfl dX8_renew_105 (sd_getR clsX8 (f := 13) (by decide) (fun _ _ _ => rfl) mw_444 dX8_renew_106 (sd_aload_n (i := 0) rfl dX8_renew_109 (sd_getR clsX8 (f := 11) (by decide) (fun _ _ _ => rfl) mw_442 dX8_renew_110 (sd_aload_n (i := 0) rfl dX8_renew_113 (sd_getR clsX8 (f := 0) (by decide) (fun _ _ _ => rfl) mw_431 dX8_renew_114 (sd_getI clsX7 (f := 6) (by decide) (fun _ _ _ => rfl) mw_161 dX8_renew_117 (sd_callV (Y' := YX3_tallyAll) (mc' := 0) (ms' := 0) (n := 2) clsX3.1 mw_852 mw_853 mw_854 mw_104 mw_855 rfl (okmX3_tallyAll) (by decide) (Nat.le_refl _) (by decide) (by decide) dX8_renew_120 (Sd.go)))))))))))) : Sd l E YX8_renew (d + 1) 0 0 Q 0 0 99 (bX8_renew_99 l E d Q)) ls st h hB
def bX8_renew_123 (l : Launch) (E : Ev) (d : Nat) (Q : Option Value → Hp → Prop) : Kt := k_iload 2 (k_push (.int 8) (k_iand (k_if_eq (k_aload 0 (k_dup (k_getI 8 19 10 (k_iload 2 (k_ior (k_putI 8 19 10 (k_vret Q))))))) (k_aload 0 (k_getR 8 19 14 (k_aload 0 (k_getR 8 19 11 (k_callV l E 1 7 YX1_closeAll d 0 0 1 (k_aload 0 (k_dup (k_getI 8 19 10 (k_iload 2 (k_ior (k_putI 8 19 10 (k_vret Q)))))))))))))))
set_option maxRecDepth 100000 in
set_option maxHeartbeats 4000000 in
theorem gX8_renew_123 {l : Launch} {E : Ev} {d : Nat} {Q : Option Value → Hp → Prop} {ls : Lv} {st : List Value} {h : Hp} (hB : bX8_renew_123 l E d Q ls st h) : Go l E YX8_renew (d + 1) 0 0 Q 0 0 123 ls st h :=
  (sd_iload_n (i := 2) rfl dX8_renew_123 (sd_bipush (v := 8) (by decide) dX8_renew_124 (sd_iand dX8_renew_126 (sd_if_eq (tgt := 141) (by decide) dX8_renew_127 (sd_aload_n (i := 0) rfl dX8_renew_141 (sd_dup dX8_renew_142 (sd_getI clsX8 (f := 10) (by decide) (fun _ _ _ => rfl) mw_441 dX8_renew_143 (sd_iload_n (i := 2) rfl dX8_renew_146 (sd_ior dX8_renew_147 (sd_putI clsX8 (f := 10) (by decide) (fun _ _ _ => rfl) rfl (Or.inl rfl) mw_441 dX8_renew_148 (sd_vret rfl (by decide) (by decide) dX8_renew_151))))))) (sd_aload_n (i := 0) rfl dX8_renew_130 (sd_getR clsX8 (f := 14) (by decide) (fun _ _ _ => rfl) mw_445 dX8_renew_131 (sd_aload_n (i := 0) rfl dX8_renew_134 (sd_getR clsX8 (f := 11) (by decide) (fun _ _ _ => rfl) mw_442 dX8_renew_135 (sd_callV (Y' := YX1_closeAll) (mc' := 0) (ms' := 0) (n := 1) clsX1.1 mw_856 mw_857 mw_858 mw_105 mw_859 rfl (okmX1_closeAll) (by decide) (Nat.le_refl _) (by decide) (by decide) dX8_renew_138 (sd_aload_n (i := 0) rfl dX8_renew_141 (sd_dup dX8_renew_142 (sd_getI clsX8 (f := 10) (by decide) (fun _ _ _ => rfl) mw_441 dX8_renew_143 (sd_iload_n (i := 2) rfl dX8_renew_146 (sd_ior dX8_renew_147 (sd_putI clsX8 (f := 10) (by decide) (fun _ _ _ => rfl) rfl (Or.inl rfl) mw_441 dX8_renew_148 (sd_vret rfl (by decide) (by decide) dX8_renew_151))))))))))))))) : Sd l E YX8_renew (d + 1) 0 0 Q 0 0 123 (bX8_renew_123 l E d Q)) ls st h hB
theorem eX8_renew {l : Launch} {E : Ev} {d : Nat} {Q : Option Value → Hp → Prop} {h : Hp} {a0 : Nat} {x1 : Int32} (hk : Go l E YX8_renew d 0 0 Q 0 0 0 [some (.ref a0), some (.int x1), none] [] h) : GoM l E YX8_renew d 0 0 [.ref a0, .int x1] h Q := GoM.of (by decide +kernel) rfl (by simp [entA, YX8_renew]) hk
theorem dX8_makePlans_0 : decode cX8_makePlans 0 = .ok (.aload_n 0, 1) := by decide +kernel
theorem dX8_makePlans_1 : decode cX8_makePlans 1 = .ok (.getfield 212, 3) := by decide +kernel
theorem dX8_makePlans_4 : decode cX8_makePlans 4 = .ok (.bipush 32, 2) := by decide +kernel
theorem dX8_makePlans_6 : decode cX8_makePlans 6 = .ok (.iload_n 1, 1) := by decide +kernel
theorem dX8_makePlans_7 : decode cX8_makePlans 7 = .ok (.ishl, 1) := by decide +kernel
theorem dX8_makePlans_8 : decode cX8_makePlans 8 = .ok (.iand, 1) := by decide +kernel
theorem dX8_makePlans_9 : decode cX8_makePlans 9 = .ok (.ifCond .eq 4, 3) := by decide +kernel
theorem dX8_makePlans_12 : decode cX8_makePlans 12 = .ok (.return_, 1) := by decide +kernel
theorem dX8_makePlans_13 : decode cX8_makePlans 13 = .ok (.aload_n 0, 1) := by decide +kernel
theorem dX8_makePlans_14 : decode cX8_makePlans 14 = .ok (.getfield 49, 3) := by decide +kernel
theorem dX8_makePlans_17 : decode cX8_makePlans 17 = .ok (.aload_n 0, 1) := by decide +kernel
theorem dX8_makePlans_18 : decode cX8_makePlans 18 = .ok (.getfield 10, 3) := by decide +kernel
theorem dX8_makePlans_21 : decode cX8_makePlans 21 = .ok (.aload_n 0, 1) := by decide +kernel
theorem dX8_makePlans_22 : decode cX8_makePlans 22 = .ok (.getfield 10, 3) := by decide +kernel
theorem dX8_makePlans_25 : decode cX8_makePlans 25 = .ok (.getfield 124, 3) := by decide +kernel
theorem dX8_makePlans_28 : decode cX8_makePlans 28 = .ok (.aload_n 0, 1) := by decide +kernel
theorem dX8_makePlans_29 : decode cX8_makePlans 29 = .ok (.getfield 10, 3) := by decide +kernel
theorem dX8_makePlans_32 : decode cX8_makePlans 32 = .ok (.getfield 127, 3) := by decide +kernel
theorem dX8_makePlans_35 : decode cX8_makePlans 35 = .ok (.iconst 2, 1) := by decide +kernel
theorem dX8_makePlans_36 : decode cX8_makePlans 36 = .ok (.iaload, 1) := by decide +kernel
theorem dX8_makePlans_37 : decode cX8_makePlans 37 = .ok (.invokevirtual 329, 3) := by decide +kernel
theorem dX8_makePlans_40 : decode cX8_makePlans 40 = .ok (.aload_n 0, 1) := by decide +kernel
theorem dX8_makePlans_41 : decode cX8_makePlans 41 = .ok (.getfield 71, 3) := by decide +kernel
theorem dX8_makePlans_44 : decode cX8_makePlans 44 = .ok (.aload_n 0, 1) := by decide +kernel
theorem dX8_makePlans_45 : decode cX8_makePlans 45 = .ok (.getfield 10, 3) := by decide +kernel
theorem dX8_makePlans_48 : decode cX8_makePlans 48 = .ok (.aload_n 0, 1) := by decide +kernel
theorem dX8_makePlans_49 : decode cX8_makePlans 49 = .ok (.getfield 49, 3) := by decide +kernel
theorem dX8_makePlans_52 : decode cX8_makePlans 52 = .ok (.invokevirtual 343, 3) := by decide +kernel
theorem dX8_makePlans_55 : decode cX8_makePlans 55 = .ok (.iconst 0, 1) := by decide +kernel
theorem dX8_makePlans_56 : decode cX8_makePlans 56 = .ok (.istore_n 2, 1) := by decide +kernel
theorem dX8_makePlans_57 : decode cX8_makePlans 57 = .ok (.iload_n 2, 1) := by decide +kernel
theorem dX8_makePlans_58 : decode cX8_makePlans 58 = .ok (.aload_n 0, 1) := by decide +kernel
theorem dX8_makePlans_59 : decode cX8_makePlans 59 = .ok (.getfield 71, 3) := by decide +kernel
theorem dX8_makePlans_62 : decode cX8_makePlans 62 = .ok (.getfield 347, 3) := by decide +kernel
theorem dX8_makePlans_65 : decode cX8_makePlans 65 = .ok (.if_icmp .ge 52, 3) := by decide +kernel
theorem dX8_makePlans_68 : decode cX8_makePlans 68 = .ok (.aload_n 0, 1) := by decide +kernel
theorem dX8_makePlans_69 : decode cX8_makePlans 69 = .ok (.getfield 71, 3) := by decide +kernel
theorem dX8_makePlans_72 : decode cX8_makePlans 72 = .ok (.aload_n 0, 1) := by decide +kernel
theorem dX8_makePlans_73 : decode cX8_makePlans 73 = .ok (.getfield 10, 3) := by decide +kernel
theorem dX8_makePlans_76 : decode cX8_makePlans 76 = .ok (.iload_n 2, 1) := by decide +kernel
theorem dX8_makePlans_77 : decode cX8_makePlans 77 = .ok (.aload_n 0, 1) := by decide +kernel
theorem dX8_makePlans_78 : decode cX8_makePlans 78 = .ok (.getfield 49, 3) := by decide +kernel
theorem dX8_makePlans_81 : decode cX8_makePlans 81 = .ok (.invokevirtual 350, 3) := by decide +kernel
theorem dX8_makePlans_84 : decode cX8_makePlans 84 = .ok (.aload_n 0, 1) := by decide +kernel
theorem dX8_makePlans_85 : decode cX8_makePlans 85 = .ok (.getfield 71, 3) := by decide +kernel
theorem dX8_makePlans_88 : decode cX8_makePlans 88 = .ok (.getfield 354, 3) := by decide +kernel
theorem dX8_makePlans_91 : decode cX8_makePlans 91 = .ok (.iload_n 1, 1) := by decide +kernel
theorem dX8_makePlans_92 : decode cX8_makePlans 92 = .ok (.sipush 128, 3) := by decide +kernel
theorem dX8_makePlans_95 : decode cX8_makePlans 95 = .ok (.imul, 1) := by decide +kernel
theorem dX8_makePlans_96 : decode cX8_makePlans 96 = .ok (.iload_n 2, 1) := by decide +kernel
theorem dX8_makePlans_97 : decode cX8_makePlans 97 = .ok (.iadd, 1) := by decide +kernel
theorem dX8_makePlans_98 : decode cX8_makePlans 98 = .ok (.aload_n 0, 1) := by decide +kernel
theorem dX8_makePlans_99 : decode cX8_makePlans 99 = .ok (.getfield 64, 3) := by decide +kernel
theorem dX8_makePlans_102 : decode cX8_makePlans 102 = .ok (.aload_n 0, 1) := by decide +kernel
theorem dX8_makePlans_103 : decode cX8_makePlans 103 = .ok (.getfield 49, 3) := by decide +kernel
theorem dX8_makePlans_106 : decode cX8_makePlans 106 = .ok (.iload_n 1, 1) := by decide +kernel
theorem dX8_makePlans_107 : decode cX8_makePlans 107 = .ok (.invokevirtual 357, 3) := by decide +kernel
theorem dX8_makePlans_110 : decode cX8_makePlans 110 = .ok (.bastore, 1) := by decide +kernel
theorem dX8_makePlans_111 : decode cX8_makePlans 111 = .ok (.iinc 2 1, 3) := by decide +kernel
theorem dX8_makePlans_114 : decode cX8_makePlans 114 = .ok (.goto (-57), 3) := by decide +kernel
theorem dX8_makePlans_117 : decode cX8_makePlans 117 = .ok (.aload_n 0, 1) := by decide +kernel
theorem dX8_makePlans_118 : decode cX8_makePlans 118 = .ok (.dup, 1) := by decide +kernel
theorem dX8_makePlans_119 : decode cX8_makePlans 119 = .ok (.getfield 212, 3) := by decide +kernel
theorem dX8_makePlans_122 : decode cX8_makePlans 122 = .ok (.bipush 32, 2) := by decide +kernel
theorem dX8_makePlans_124 : decode cX8_makePlans 124 = .ok (.iload_n 1, 1) := by decide +kernel
theorem dX8_makePlans_125 : decode cX8_makePlans 125 = .ok (.ishl, 1) := by decide +kernel
theorem dX8_makePlans_126 : decode cX8_makePlans 126 = .ok (.ior, 1) := by decide +kernel
theorem dX8_makePlans_127 : decode cX8_makePlans 127 = .ok (.putfield 212, 3) := by decide +kernel
theorem dX8_makePlans_130 : decode cX8_makePlans 130 = .ok (.return_, 1) := by decide +kernel
def bX8_makePlans_0 (l : Launch) (E : Ev) (d : Nat) (Q : Option Value → Hp → Prop) : Kt := k_aload 0 (k_getI 8 19 10 (k_push (.int 32) (k_iload 1 (k_ishl (k_iand (k_if_eq (k_aload 0 (k_getR 8 19 12 (k_aload 0 (k_getR 8 19 0 (k_aload 0 (k_getR 8 19 0 (k_getR 7 15 5 (k_aload 0 (k_getR 8 19 0 (k_getR 7 15 7 (k_push (.int 2) (k_iaload (k_callV l E 0 7 YX0_fillAble d 0 0 3 (k_aload 0 (k_getR 8 19 15 (k_aload 0 (k_getR 8 19 0 (k_aload 0 (k_getR 8 19 12 (k_callV l E 4 5 YX4_begin d 0 0 2 (k_push (.int 0) (k_istore 2 (Go l E YX8_makePlans (d + 1) 0 0 Q 0 0 57))))))))))))))))))))))) (k_vret Q)))))))
set_option maxRecDepth 100000 in
set_option maxHeartbeats 4000000 in
theorem gX8_makePlans_0 {l : Launch} {E : Ev} {d : Nat} {Q : Option Value → Hp → Prop} {ls : Lv} {st : List Value} {h : Hp} (hB : bX8_makePlans_0 l E d Q ls st h) : Go l E YX8_makePlans (d + 1) 0 0 Q 0 0 0 ls st h :=
  (sd_aload_n (i := 0) rfl dX8_makePlans_0 (sd_getI clsX8 (f := 10) (by decide) (fun _ _ _ => rfl) mw_441 dX8_makePlans_1 (sd_bipush (v := 32) (by decide) dX8_makePlans_4 (sd_iload_n (i := 1) rfl dX8_makePlans_6 (sd_ishl dX8_makePlans_7 (sd_iand dX8_makePlans_8 (sd_if_eq (tgt := 13) (by decide) dX8_makePlans_9 (sd_aload_n (i := 0) rfl dX8_makePlans_13 (sd_getR clsX8 (f := 12) (by decide) (fun _ _ _ => rfl) mw_443 dX8_makePlans_14 (sd_aload_n (i := 0) rfl dX8_makePlans_17 (sd_getR clsX8 (f := 0) (by decide) (fun _ _ _ => rfl) mw_431 dX8_makePlans_18 (sd_aload_n (i := 0) rfl dX8_makePlans_21 (sd_getR clsX8 (f := 0) (by decide) (fun _ _ _ => rfl) mw_431 dX8_makePlans_22 (sd_getR clsX7 (f := 5) (by decide) (fun _ _ _ => rfl) mw_159 dX8_makePlans_25 (sd_aload_n (i := 0) rfl dX8_makePlans_28 (sd_getR clsX8 (f := 0) (by decide) (fun _ _ _ => rfl) mw_431 dX8_makePlans_29 (sd_getR clsX7 (f := 7) (by decide) (fun _ _ _ => rfl) mw_166 dX8_makePlans_32 (sd_iconst (v := 2) (by decide) dX8_makePlans_35 (sd_iaload dX8_makePlans_36 (sd_callV (Y' := YX0_fillAble) (mc' := 0) (ms' := 0) (n := 3) clsX0.1 mw_776 mw_777 mw_778 mw_103 mw_779 rfl (okmX0_fillAble) (by decide) (Nat.le_refl _) (by decide) (by decide) dX8_makePlans_37 (sd_aload_n (i := 0) rfl dX8_makePlans_40 (sd_getR clsX8 (f := 15) (by decide) (fun _ _ _ => rfl) mw_446 dX8_makePlans_41 (sd_aload_n (i := 0) rfl dX8_makePlans_44 (sd_getR clsX8 (f := 0) (by decide) (fun _ _ _ => rfl) mw_431 dX8_makePlans_45 (sd_aload_n (i := 0) rfl dX8_makePlans_48 (sd_getR clsX8 (f := 12) (by decide) (fun _ _ _ => rfl) mw_443 dX8_makePlans_49 (sd_callV (Y' := YX4_begin) (mc' := 0) (ms' := 0) (n := 2) clsX4.1 mw_1055 mw_1056 mw_1057 mw_106 mw_1058 rfl (okmX4_begin) (by decide) (Nat.le_refl _) (by decide) (by decide) dX8_makePlans_52 (sd_iconst (v := 0) (by decide) dX8_makePlans_55 (sd_istore_n (i := 2) rfl (by decide) dX8_makePlans_56 (Sd.go))))))))))))))))))))))) (sd_vret rfl (by decide) (by decide) dX8_makePlans_12))))))) : Sd l E YX8_makePlans (d + 1) 0 0 Q 0 0 0 (bX8_makePlans_0 l E d Q)) ls st h hB
def bX8_makePlans_57 (l : Launch) (E : Ev) (d : Nat) (Q : Option Value → Hp → Prop) : Kt := k_iload 2 (k_aload 0 (k_getR 8 19 15 (k_getI 4 5 4 (k_icmp_ge (k_aload 0 (k_dup (k_getI 8 19 10 (k_push (.int 32) (k_iload 1 (k_ishl (k_ior (k_putI 8 19 10 (k_vret Q))))))))) (k_aload 0 (k_getR 8 19 15 (k_aload 0 (k_getR 8 19 0 (k_iload 2 (k_aload 0 (k_getR 8 19 12 (k_callV l E 4 5 YX4_tryOut d 0 0 3 (k_aload 0 (k_getR 8 19 15 (k_getR 4 5 0 (k_iload 1 (k_push (.int 128) (k_imul (k_iload 2 (k_iadd (k_aload 0 (k_getR 8 19 14 (k_aload 0 (k_getR 8 19 12 (k_iload 1 (k_callV l E 1 7 YX1_opens d 0 0 2 (k_zastore (k_iinc 2 1 (Go l E YX8_makePlans (d + 1) 0 0 Q 0 0 57)))))))))))))))))))))))))))))
set_option maxRecDepth 100000 in
set_option maxHeartbeats 4000000 in
theorem gX8_makePlans_57 {l : Launch} {E : Ev} {d : Nat} {Q : Option Value → Hp → Prop} {ls : Lv} {st : List Value} {h : Hp} (hB : bX8_makePlans_57 l E d Q ls st h) : Go l E YX8_makePlans (d + 1) 0 0 Q 0 0 57 ls st h :=
  (sd_iload_n (i := 2) rfl dX8_makePlans_57 (sd_aload_n (i := 0) rfl dX8_makePlans_58 (sd_getR clsX8 (f := 15) (by decide) (fun _ _ _ => rfl) mw_446 dX8_makePlans_59 (sd_getI clsX4 (f := 4) (by decide) (fun _ _ _ => rfl) mw_385 dX8_makePlans_62 (sd_icmp_ge (tgt := 117) (by decide) dX8_makePlans_65 (sd_aload_n (i := 0) rfl dX8_makePlans_117 (sd_dup dX8_makePlans_118 (sd_getI clsX8 (f := 10) (by decide) (fun _ _ _ => rfl) mw_441 dX8_makePlans_119 (sd_bipush (v := 32) (by decide) dX8_makePlans_122 (sd_iload_n (i := 1) rfl dX8_makePlans_124 (sd_ishl dX8_makePlans_125 (sd_ior dX8_makePlans_126 (sd_putI clsX8 (f := 10) (by decide) (fun _ _ _ => rfl) rfl (Or.inl rfl) mw_441 dX8_makePlans_127 (sd_vret rfl (by decide) (by decide) dX8_makePlans_130))))))))) (sd_aload_n (i := 0) rfl dX8_makePlans_68 (sd_getR clsX8 (f := 15) (by decide) (fun _ _ _ => rfl) mw_446 dX8_makePlans_69 (sd_aload_n (i := 0) rfl dX8_makePlans_72 (sd_getR clsX8 (f := 0) (by decide) (fun _ _ _ => rfl) mw_431 dX8_makePlans_73 (sd_iload_n (i := 2) rfl dX8_makePlans_76 (sd_aload_n (i := 0) rfl dX8_makePlans_77 (sd_getR clsX8 (f := 12) (by decide) (fun _ _ _ => rfl) mw_443 dX8_makePlans_78 (sd_callV (Y' := YX4_tryOut) (mc' := 0) (ms' := 0) (n := 3) clsX4.1 mw_1060 mw_1061 mw_1062 mw_106 mw_1063 rfl (okmX4_tryOut) (by decide) (Nat.le_refl _) (by decide) (by decide) dX8_makePlans_81 (sd_aload_n (i := 0) rfl dX8_makePlans_84 (sd_getR clsX8 (f := 15) (by decide) (fun _ _ _ => rfl) mw_446 dX8_makePlans_85 (sd_getR clsX4 (f := 0) (by decide) (fun _ _ _ => rfl) mw_380 dX8_makePlans_88 (sd_iload_n (i := 1) rfl dX8_makePlans_91 (sd_sipush (v := 128) (by decide) dX8_makePlans_92 (sd_imul dX8_makePlans_95 (sd_iload_n (i := 2) rfl dX8_makePlans_96 (sd_iadd dX8_makePlans_97 (sd_aload_n (i := 0) rfl dX8_makePlans_98 (sd_getR clsX8 (f := 14) (by decide) (fun _ _ _ => rfl) mw_445 dX8_makePlans_99 (sd_aload_n (i := 0) rfl dX8_makePlans_102 (sd_getR clsX8 (f := 12) (by decide) (fun _ _ _ => rfl) mw_443 dX8_makePlans_103 (sd_iload_n (i := 1) rfl dX8_makePlans_106 (sd_callV (Y' := YX1_opens) (mc' := 0) (ms' := 0) (n := 2) clsX1.1 mw_1070 mw_1071 mw_1072 mw_105 mw_1073 rfl (okmX1_opens) (by decide) (Nat.le_refl _) (by decide) (by decide) dX8_makePlans_107 (sd_zastore dX8_makePlans_110 (sd_iinc (i := 2) (v := 1) (by decide) (by decide) dX8_makePlans_111 (sd_goto (tgt := 57) (by decide) dX8_makePlans_114 (Sd.go)))))))))))))))))))))))))))))) : Sd l E YX8_makePlans (d + 1) 0 0 Q 0 0 57 (bX8_makePlans_57 l E d Q)) ls st h hB
theorem eX8_makePlans {l : Launch} {E : Ev} {d : Nat} {Q : Option Value → Hp → Prop} {h : Hp} {a0 : Nat} {x1 : Int32} (hk : Go l E YX8_makePlans d 0 0 Q 0 0 0 [some (.ref a0), some (.int x1), none] [] h) : GoM l E YX8_makePlans d 0 0 [.ref a0, .int x1] h Q := GoM.of (by decide +kernel) rfl (by simp [entA, YX8_makePlans]) hk
theorem dX8_isChanged_0 : decode cX8_isChanged 0 = .ok (.aload_n 0, 1) := by decide +kernel
theorem dX8_isChanged_1 : decode cX8_isChanged 1 = .ok (.getfield 184, 3) := by decide +kernel
theorem dX8_isChanged_4 : decode cX8_isChanged 4 = .ok (.iload_n 1, 1) := by decide +kernel
theorem dX8_isChanged_5 : decode cX8_isChanged 5 = .ok (.invokestatic 198, 3) := by decide +kernel
theorem dX8_isChanged_8 : decode cX8_isChanged 8 = .ok (.aload_n 0, 1) := by decide +kernel
theorem dX8_isChanged_9 : decode cX8_isChanged 9 = .ok (.getfield 10, 3) := by decide +kernel
theorem dX8_isChanged_12 : decode cX8_isChanged 12 = .ok (.getfield 118, 3) := by decide +kernel
theorem dX8_isChanged_15 : decode cX8_isChanged 15 = .ok (.iload_n 1, 1) := by decide +kernel
theorem dX8_isChanged_16 : decode cX8_isChanged 16 = .ok (.iaload, 1) := by decide +kernel
theorem dX8_isChanged_17 : decode cX8_isChanged 17 = .ok (.if_icmp .eq 7, 3) := by decide +kernel
theorem dX8_isChanged_20 : decode cX8_isChanged 20 = .ok (.iconst 1, 1) := by decide +kernel
theorem dX8_isChanged_21 : decode cX8_isChanged 21 = .ok (.goto 4, 3) := by decide +kernel
theorem dX8_isChanged_24 : decode cX8_isChanged 24 = .ok (.iconst 0, 1) := by decide +kernel
theorem dX8_isChanged_25 : decode cX8_isChanged 25 = .ok (.ireturn, 1) := by decide +kernel
def bX8_isChanged_0 (l : Launch) (E : Ev) (d : Nat) (Q : Option Value → Hp → Prop) : Kt := k_aload 0 (k_getJ 8 19 18 (k_iload 1 (k_callS l E YX3_playerIn d 0 0 2 (k_aload 0 (k_getR 8 19 0 (k_getR 7 15 4 (k_iload 1 (k_iaload (k_icmp_eq (k_push (.int 0) (k_iret .boolean Q)) (k_push (.int 1) (k_iret .boolean Q)))))))))))
set_option maxRecDepth 100000 in
set_option maxHeartbeats 4000000 in
theorem gX8_isChanged_0 {l : Launch} {E : Ev} {d : Nat} {Q : Option Value → Hp → Prop} {ls : Lv} {st : List Value} {h : Hp} (hB : bX8_isChanged_0 l E d Q ls st h) : Go l E YX8_isChanged (d + 1) 0 0 Q 0 0 0 ls st h :=
  (sd_aload_n (i := 0) rfl dX8_isChanged_0 (sd_getJ clsX8 (f := 18) (by decide) (fun _ _ _ => rfl) mw_449 dX8_isChanged_1 (sd_iload_n (i := 1) rfl dX8_isChanged_4 (sd_callS (Y' := YX3_playerIn) (mc' := 0) (ms' := 0) (n := 2) mw_902 mw_903 mw_104 mw_904 (okmX3_playerIn) (by decide) (Nat.le_refl _) (by decide) (by decide) dX8_isChanged_5 (sd_aload_n (i := 0) rfl dX8_isChanged_8 (sd_getR clsX8 (f := 0) (by decide) (fun _ _ _ => rfl) mw_431 dX8_isChanged_9 (sd_getR clsX7 (f := 4) (by decide) (fun _ _ _ => rfl) mw_155 dX8_isChanged_12 (sd_iload_n (i := 1) rfl dX8_isChanged_15 (sd_iaload dX8_isChanged_16 (sd_icmp_eq (tgt := 24) (by decide) dX8_isChanged_17 (sd_iconst (v := 0) (by decide) dX8_isChanged_24 (sd_iret (ty := .boolean) rfl (by decide) (by decide) dX8_isChanged_25)) (sd_iconst (v := 1) (by decide) dX8_isChanged_20 (sd_goto (tgt := 25) (by decide) dX8_isChanged_21 (sd_iret (ty := .boolean) rfl (by decide) (by decide) dX8_isChanged_25)))))))))))) : Sd l E YX8_isChanged (d + 1) 0 0 Q 0 0 0 (bX8_isChanged_0 l E d Q)) ls st h hB
theorem eX8_isChanged {l : Launch} {E : Ev} {d : Nat} {Q : Option Value → Hp → Prop} {h : Hp} {a0 : Nat} {x1 : Int32} (hk : Go l E YX8_isChanged d 0 0 Q 0 0 0 [some (.ref a0), some (.int x1)] [] h) : GoM l E YX8_isChanged d 0 0 [.ref a0, .int x1] h Q := GoM.of (by decide +kernel) rfl (by simp [entA, YX8_isChanged]) hk
theorem dX8_linkFrom_0 : decode cX8_linkFrom 0 = .ok (.iconst 0, 1) := by decide +kernel
theorem dX8_linkFrom_1 : decode cX8_linkFrom 1 = .ok (.istore_n 2, 1) := by decide +kernel
theorem dX8_linkFrom_2 : decode cX8_linkFrom 2 = .ok (.iconst 0, 1) := by decide +kernel
theorem dX8_linkFrom_3 : decode cX8_linkFrom 3 = .ok (.istore_n 3, 1) := by decide +kernel
theorem dX8_linkFrom_4 : decode cX8_linkFrom 4 = .ok (.aload_n 0, 1) := by decide +kernel
theorem dX8_linkFrom_5 : decode cX8_linkFrom 5 = .ok (.iload_n 1, 1) := by decide +kernel
theorem dX8_linkFrom_6 : decode cX8_linkFrom 6 = .ok (.invokevirtual 206, 3) := by decide +kernel
theorem dX8_linkFrom_9 : decode cX8_linkFrom 9 = .ok (.ifCond .eq 7, 3) := by decide +kernel
theorem dX8_linkFrom_12 : decode cX8_linkFrom 12 = .ok (.iload_n 1, 1) := by decide +kernel
theorem dX8_linkFrom_13 : decode cX8_linkFrom 13 = .ok (.goto 4, 3) := by decide +kernel
theorem dX8_linkFrom_16 : decode cX8_linkFrom 16 = .ok (.iconst (-1), 1) := by decide +kernel
theorem dX8_linkFrom_17 : decode cX8_linkFrom 17 = .ok (.istore 4, 2) := by decide +kernel
theorem dX8_linkFrom_19 : decode cX8_linkFrom 19 = .ok (.iconst 0, 1) := by decide +kernel
theorem dX8_linkFrom_20 : decode cX8_linkFrom 20 = .ok (.istore 5, 2) := by decide +kernel
theorem dX8_linkFrom_22 : decode cX8_linkFrom 22 = .ok (.iload 5, 2) := by decide +kernel
theorem dX8_linkFrom_24 : decode cX8_linkFrom 24 = .ok (.bipush 8, 2) := by decide +kernel
theorem dX8_linkFrom_26 : decode cX8_linkFrom 26 = .ok (.if_icmp .ge 53, 3) := by decide +kernel
theorem dX8_linkFrom_29 : decode cX8_linkFrom 29 = .ok (.iload 4, 2) := by decide +kernel
theorem dX8_linkFrom_31 : decode cX8_linkFrom 31 = .ok (.iconst (-1), 1) := by decide +kernel
theorem dX8_linkFrom_32 : decode cX8_linkFrom 32 = .ok (.if_icmp .eq 47, 3) := by decide +kernel
theorem dX8_linkFrom_35 : decode cX8_linkFrom 35 = .ok (.aload_n 0, 1) := by decide +kernel
theorem dX8_linkFrom_36 : decode cX8_linkFrom 36 = .ok (.getfield 184, 3) := by decide +kernel
theorem dX8_linkFrom_39 : decode cX8_linkFrom 39 = .ok (.iload 4, 2) := by decide +kernel
theorem dX8_linkFrom_41 : decode cX8_linkFrom 41 = .ok (.invokestatic 198, 3) := by decide +kernel
theorem dX8_linkFrom_44 : decode cX8_linkFrom 44 = .ok (.istore 6, 2) := by decide +kernel
theorem dX8_linkFrom_46 : decode cX8_linkFrom 46 = .ok (.aload_n 0, 1) := by decide +kernel
theorem dX8_linkFrom_47 : decode cX8_linkFrom 47 = .ok (.getfield 82, 3) := by decide +kernel
theorem dX8_linkFrom_50 : decode cX8_linkFrom 50 = .ok (.iload_n 2, 1) := by decide +kernel
theorem dX8_linkFrom_51 : decode cX8_linkFrom 51 = .ok (.iload 6, 2) := by decide +kernel
theorem dX8_linkFrom_53 : decode cX8_linkFrom 53 = .ok (.iastore, 1) := by decide +kernel
theorem dX8_linkFrom_54 : decode cX8_linkFrom 54 = .ok (.iinc 2 1, 3) := by decide +kernel
theorem dX8_linkFrom_57 : decode cX8_linkFrom 57 = .ok (.iload_n 3, 1) := by decide +kernel
theorem dX8_linkFrom_58 : decode cX8_linkFrom 58 = .ok (.iconst 1, 1) := by decide +kernel
theorem dX8_linkFrom_59 : decode cX8_linkFrom 59 = .ok (.iload 6, 2) := by decide +kernel
theorem dX8_linkFrom_61 : decode cX8_linkFrom 61 = .ok (.ishl, 1) := by decide +kernel
theorem dX8_linkFrom_62 : decode cX8_linkFrom 62 = .ok (.ior, 1) := by decide +kernel
theorem dX8_linkFrom_63 : decode cX8_linkFrom 63 = .ok (.istore_n 3, 1) := by decide +kernel
theorem dX8_linkFrom_64 : decode cX8_linkFrom 64 = .ok (.aload_n 0, 1) := by decide +kernel
theorem dX8_linkFrom_65 : decode cX8_linkFrom 65 = .ok (.iload 6, 2) := by decide +kernel
theorem dX8_linkFrom_67 : decode cX8_linkFrom 67 = .ok (.iload_n 3, 1) := by decide +kernel
theorem dX8_linkFrom_68 : decode cX8_linkFrom 68 = .ok (.invokevirtual 361, 3) := by decide +kernel
theorem dX8_linkFrom_71 : decode cX8_linkFrom 71 = .ok (.istore 4, 2) := by decide +kernel
theorem dX8_linkFrom_73 : decode cX8_linkFrom 73 = .ok (.iinc 5 1, 3) := by decide +kernel
theorem dX8_linkFrom_76 : decode cX8_linkFrom 76 = .ok (.goto (-54), 3) := by decide +kernel
theorem dX8_linkFrom_79 : decode cX8_linkFrom 79 = .ok (.iload_n 2, 1) := by decide +kernel
theorem dX8_linkFrom_80 : decode cX8_linkFrom 80 = .ok (.ireturn, 1) := by decide +kernel
def bX8_linkFrom_0 (l : Launch) (E : Ev) (d : Nat) (Q : Option Value → Hp → Prop) : Kt := k_push (.int 0) (k_istore 2 (k_push (.int 0) (k_istore 3 (k_aload 0 (k_iload 1 (k_callV l E 8 19 YX8_isChanged d 0 0 1 (k_if_eq (k_push (.int (-1)) (k_istore 4 (k_push (.int 0) (k_istore 5 (Go l E YX8_linkFrom (d + 1) 0 0 Q 0 0 22))))) (k_iload 1 (k_istore 4 (k_push (.int 0) (k_istore 5 (Go l E YX8_linkFrom (d + 1) 0 0 Q 0 0 22))))))))))))
set_option maxRecDepth 100000 in
set_option maxHeartbeats 4000000 in
theorem gX8_linkFrom_0 {l : Launch} {E : Ev} {d : Nat} {Q : Option Value → Hp → Prop} {ls : Lv} {st : List Value} {h : Hp} (hB : bX8_linkFrom_0 l E d Q ls st h) : Go l E YX8_linkFrom (d + 1) 0 0 Q 0 0 0 ls st h :=
  (sd_iconst (v := 0) (by decide) dX8_linkFrom_0 (sd_istore_n (i := 2) rfl (by decide) dX8_linkFrom_1 (sd_iconst (v := 0) (by decide) dX8_linkFrom_2 (sd_istore_n (i := 3) rfl (by decide) dX8_linkFrom_3 (sd_aload_n (i := 0) rfl dX8_linkFrom_4 (sd_iload_n (i := 1) rfl dX8_linkFrom_5 (sd_callV (Y' := YX8_isChanged) (mc' := 0) (ms' := 0) (n := 1) clsX8.1 mw_910 mw_912 mw_32 mw_100 mw_913 rfl (okmX8_isChanged) (by decide) (Nat.le_refl _) (by decide) (by decide) dX8_linkFrom_6 (sd_if_eq (tgt := 16) (by decide) dX8_linkFrom_9 (sd_iconst (v := (-1)) (by decide) dX8_linkFrom_16 (sd_istore (i := 4) (by decide) dX8_linkFrom_17 (sd_iconst (v := 0) (by decide) dX8_linkFrom_19 (sd_istore (i := 5) (by decide) dX8_linkFrom_20 (Sd.go))))) (sd_iload_n (i := 1) rfl dX8_linkFrom_12 (sd_goto (tgt := 17) (by decide) dX8_linkFrom_13 (sd_istore (i := 4) (by decide) dX8_linkFrom_17 (sd_iconst (v := 0) (by decide) dX8_linkFrom_19 (sd_istore (i := 5) (by decide) dX8_linkFrom_20 (Sd.go))))))))))))) : Sd l E YX8_linkFrom (d + 1) 0 0 Q 0 0 0 (bX8_linkFrom_0 l E d Q)) ls st h hB
def bX8_linkFrom_22 (l : Launch) (E : Ev) (d : Nat) (Q : Option Value → Hp → Prop) : Kt := k_iload 5 (k_push (.int 8) (k_icmp_ge (k_iload 2 (k_iret .int Q)) (k_iload 4 (k_push (.int (-1)) (k_icmp_eq (k_iload 2 (k_iret .int Q)) (k_aload 0 (k_getJ 8 19 18 (k_iload 4 (k_callS l E YX3_playerIn d 0 0 2 (k_istore 6 (k_aload 0 (k_getR 8 19 17 (k_iload 2 (k_iload 6 (k_iastore (k_iinc 2 1 (k_iload 3 (k_push (.int 1) (k_iload 6 (k_ishl (k_ior (k_istore 3 (k_aload 0 (k_iload 6 (k_iload 3 (k_callV l E 8 19 YX8_nextLink d 0 0 2 (k_istore 4 (k_iinc 5 1 (Go l E YX8_linkFrom (d + 1) 0 0 Q 0 0 22)))))))))))))))))))))))))))))
set_option maxRecDepth 100000 in
set_option maxHeartbeats 4000000 in
theorem gX8_linkFrom_22 {l : Launch} {E : Ev} {d : Nat} {Q : Option Value → Hp → Prop} {ls : Lv} {st : List Value} {h : Hp} (hB : bX8_linkFrom_22 l E d Q ls st h) : Go l E YX8_linkFrom (d + 1) 0 0 Q 0 0 22 ls st h :=
  (sd_iload (n := 5) dX8_linkFrom_22 (sd_bipush (v := 8) (by decide) dX8_linkFrom_24 (sd_icmp_ge (tgt := 79) (by decide) dX8_linkFrom_26 (sd_iload_n (i := 2) rfl dX8_linkFrom_79 (sd_iret (ty := .int) rfl (by decide) (by decide) dX8_linkFrom_80)) (sd_iload (n := 4) dX8_linkFrom_29 (sd_iconst (v := (-1)) (by decide) dX8_linkFrom_31 (sd_icmp_eq (tgt := 79) (by decide) dX8_linkFrom_32 (sd_iload_n (i := 2) rfl dX8_linkFrom_79 (sd_iret (ty := .int) rfl (by decide) (by decide) dX8_linkFrom_80)) (sd_aload_n (i := 0) rfl dX8_linkFrom_35 (sd_getJ clsX8 (f := 18) (by decide) (fun _ _ _ => rfl) mw_449 dX8_linkFrom_36 (sd_iload (n := 4) dX8_linkFrom_39 (sd_callS (Y' := YX3_playerIn) (mc' := 0) (ms' := 0) (n := 2) mw_902 mw_903 mw_104 mw_904 (okmX3_playerIn) (by decide) (Nat.le_refl _) (by decide) (by decide) dX8_linkFrom_41 (sd_istore (i := 6) (by decide) dX8_linkFrom_44 (sd_aload_n (i := 0) rfl dX8_linkFrom_46 (sd_getR clsX8 (f := 17) (by decide) (fun _ _ _ => rfl) mw_448 dX8_linkFrom_47 (sd_iload_n (i := 2) rfl dX8_linkFrom_50 (sd_iload (n := 6) dX8_linkFrom_51 (sd_iastore dX8_linkFrom_53 (sd_iinc (i := 2) (v := 1) (by decide) (by decide) dX8_linkFrom_54 (sd_iload_n (i := 3) rfl dX8_linkFrom_57 (sd_iconst (v := 1) (by decide) dX8_linkFrom_58 (sd_iload (n := 6) dX8_linkFrom_59 (sd_ishl dX8_linkFrom_61 (sd_ior dX8_linkFrom_62 (sd_istore_n (i := 3) rfl (by decide) dX8_linkFrom_63 (sd_aload_n (i := 0) rfl dX8_linkFrom_64 (sd_iload (n := 6) dX8_linkFrom_65 (sd_iload_n (i := 3) rfl dX8_linkFrom_67 (sd_callV (Y' := YX8_nextLink) (mc' := 0) (ms' := 0) (n := 2) clsX8.1 mw_922 mw_924 mw_34 mw_100 mw_925 rfl (okmX8_nextLink) (by decide) (Nat.le_refl _) (by decide) (by decide) dX8_linkFrom_68 (sd_istore (i := 4) (by decide) dX8_linkFrom_71 (sd_iinc (i := 5) (v := 1) (by decide) (by decide) dX8_linkFrom_73 (sd_goto (tgt := 22) (by decide) dX8_linkFrom_76 (Sd.go)))))))))))))))))))))))))))))) : Sd l E YX8_linkFrom (d + 1) 0 0 Q 0 0 22 (bX8_linkFrom_22 l E d Q)) ls st h hB
theorem eX8_linkFrom {l : Launch} {E : Ev} {d : Nat} {Q : Option Value → Hp → Prop} {h : Hp} {a0 : Nat} {x1 : Int32} (hk : Go l E YX8_linkFrom d 0 0 Q 0 0 0 [some (.ref a0), some (.int x1), none, none, none, none, none] [] h) : GoM l E YX8_linkFrom d 0 0 [.ref a0, .int x1] h Q := GoM.of (by decide +kernel) rfl (by simp [entA, YX8_linkFrom]) hk
theorem dX8_nextLink_0 : decode cX8_nextLink 0 = .ok (.iconst 0, 1) := by decide +kernel
theorem dX8_nextLink_1 : decode cX8_nextLink 1 = .ok (.istore_n 3, 1) := by decide +kernel
theorem dX8_nextLink_2 : decode cX8_nextLink 2 = .ok (.iload_n 3, 1) := by decide +kernel
theorem dX8_nextLink_3 : decode cX8_nextLink 3 = .ok (.aload_n 0, 1) := by decide +kernel
theorem dX8_nextLink_4 : decode cX8_nextLink 4 = .ok (.getfield 10, 3) := by decide +kernel
theorem dX8_nextLink_7 : decode cX8_nextLink 7 = .ok (.getfield 105, 3) := by decide +kernel
theorem dX8_nextLink_10 : decode cX8_nextLink 10 = .ok (.if_icmp .ge 59, 3) := by decide +kernel
theorem dX8_nextLink_13 : decode cX8_nextLink 13 = .ok (.aload_n 0, 1) := by decide +kernel
theorem dX8_nextLink_14 : decode cX8_nextLink 14 = .ok (.getfield 10, 3) := by decide +kernel
theorem dX8_nextLink_17 : decode cX8_nextLink 17 = .ok (.getfield 118, 3) := by decide +kernel
theorem dX8_nextLink_20 : decode cX8_nextLink 20 = .ok (.iload_n 3, 1) := by decide +kernel
theorem dX8_nextLink_21 : decode cX8_nextLink 21 = .ok (.iaload, 1) := by decide +kernel
theorem dX8_nextLink_22 : decode cX8_nextLink 22 = .ok (.iload_n 1, 1) := by decide +kernel
theorem dX8_nextLink_23 : decode cX8_nextLink 23 = .ok (.if_icmp .ne 15, 3) := by decide +kernel
theorem dX8_nextLink_26 : decode cX8_nextLink 26 = .ok (.aload_n 0, 1) := by decide +kernel
theorem dX8_nextLink_27 : decode cX8_nextLink 27 = .ok (.iload_n 3, 1) := by decide +kernel
theorem dX8_nextLink_28 : decode cX8_nextLink 28 = .ok (.invokevirtual 206, 3) := by decide +kernel
theorem dX8_nextLink_31 : decode cX8_nextLink 31 = .ok (.ifCond .eq 7, 3) := by decide +kernel
theorem dX8_nextLink_34 : decode cX8_nextLink 34 = .ok (.iconst 1, 1) := by decide +kernel
theorem dX8_nextLink_35 : decode cX8_nextLink 35 = .ok (.goto 4, 3) := by decide +kernel
theorem dX8_nextLink_38 : decode cX8_nextLink 38 = .ok (.iconst 0, 1) := by decide +kernel
theorem dX8_nextLink_39 : decode cX8_nextLink 39 = .ok (.istore 4, 2) := by decide +kernel
theorem dX8_nextLink_41 : decode cX8_nextLink 41 = .ok (.iload 4, 2) := by decide +kernel
theorem dX8_nextLink_43 : decode cX8_nextLink 43 = .ok (.ifCond .eq 20, 3) := by decide +kernel
theorem dX8_nextLink_46 : decode cX8_nextLink 46 = .ok (.iload_n 2, 1) := by decide +kernel
theorem dX8_nextLink_47 : decode cX8_nextLink 47 = .ok (.aload_n 0, 1) := by decide +kernel
theorem dX8_nextLink_48 : decode cX8_nextLink 48 = .ok (.getfield 184, 3) := by decide +kernel
theorem dX8_nextLink_51 : decode cX8_nextLink 51 = .ok (.iload_n 3, 1) := by decide +kernel
theorem dX8_nextLink_52 : decode cX8_nextLink 52 = .ok (.invokestatic 198, 3) := by decide +kernel
theorem dX8_nextLink_55 : decode cX8_nextLink 55 = .ok (.ishr, 1) := by decide +kernel
theorem dX8_nextLink_56 : decode cX8_nextLink 56 = .ok (.iconst 1, 1) := by decide +kernel
theorem dX8_nextLink_57 : decode cX8_nextLink 57 = .ok (.iand, 1) := by decide +kernel
theorem dX8_nextLink_58 : decode cX8_nextLink 58 = .ok (.ifCond .ne 5, 3) := by decide +kernel
theorem dX8_nextLink_61 : decode cX8_nextLink 61 = .ok (.iload_n 3, 1) := by decide +kernel
theorem dX8_nextLink_62 : decode cX8_nextLink 62 = .ok (.ireturn, 1) := by decide +kernel
theorem dX8_nextLink_63 : decode cX8_nextLink 63 = .ok (.iinc 3 1, 3) := by decide +kernel
theorem dX8_nextLink_66 : decode cX8_nextLink 66 = .ok (.goto (-64), 3) := by decide +kernel
theorem dX8_nextLink_69 : decode cX8_nextLink 69 = .ok (.iconst (-1), 1) := by decide +kernel
theorem dX8_nextLink_70 : decode cX8_nextLink 70 = .ok (.ireturn, 1) := by decide +kernel
def bX8_nextLink_0 (l : Launch) (E : Ev) (d : Nat) (Q : Option Value → Hp → Prop) : Kt := k_push (.int 0) (k_istore 3 (Go l E YX8_nextLink (d + 1) 0 0 Q 0 0 2))
set_option maxRecDepth 100000 in
set_option maxHeartbeats 4000000 in
theorem gX8_nextLink_0 {l : Launch} {E : Ev} {d : Nat} {Q : Option Value → Hp → Prop} {ls : Lv} {st : List Value} {h : Hp} (hB : bX8_nextLink_0 l E d Q ls st h) : Go l E YX8_nextLink (d + 1) 0 0 Q 0 0 0 ls st h :=
  (sd_iconst (v := 0) (by decide) dX8_nextLink_0 (sd_istore_n (i := 3) rfl (by decide) dX8_nextLink_1 (Sd.go)) : Sd l E YX8_nextLink (d + 1) 0 0 Q 0 0 0 (bX8_nextLink_0 l E d Q)) ls st h hB
def bX8_nextLink_2 (l : Launch) (E : Ev) (d : Nat) (Q : Option Value → Hp → Prop) : Kt := k_iload 3 (k_aload 0 (k_getR 8 19 0 (k_getI 7 15 1 (k_icmp_ge (k_push (.int (-1)) (k_iret .int Q)) (k_aload 0 (k_getR 8 19 0 (k_getR 7 15 4 (k_iload 3 (k_iaload (k_iload 1 (k_icmp_ne (k_push (.int 0) (Go l E YX8_nextLink (d + 1) 0 0 Q 0 0 39)) (k_aload 0 (k_iload 3 (k_callV l E 8 19 YX8_isChanged d 0 0 1 (k_if_eq (k_push (.int 0) (Go l E YX8_nextLink (d + 1) 0 0 Q 0 0 39)) (k_push (.int 1) (Go l E YX8_nextLink (d + 1) 0 0 Q 0 0 39)))))))))))))))))
set_option maxRecDepth 100000 in
set_option maxHeartbeats 4000000 in
theorem gX8_nextLink_2 {l : Launch} {E : Ev} {d : Nat} {Q : Option Value → Hp → Prop} {ls : Lv} {st : List Value} {h : Hp} (hB : bX8_nextLink_2 l E d Q ls st h) : Go l E YX8_nextLink (d + 1) 0 0 Q 0 0 2 ls st h :=
  (sd_iload_n (i := 3) rfl dX8_nextLink_2 (sd_aload_n (i := 0) rfl dX8_nextLink_3 (sd_getR clsX8 (f := 0) (by decide) (fun _ _ _ => rfl) mw_431 dX8_nextLink_4 (sd_getI clsX7 (f := 1) (by decide) (fun _ _ _ => rfl) mw_143 dX8_nextLink_7 (sd_icmp_ge (tgt := 69) (by decide) dX8_nextLink_10 (sd_iconst (v := (-1)) (by decide) dX8_nextLink_69 (sd_iret (ty := .int) rfl (by decide) (by decide) dX8_nextLink_70)) (sd_aload_n (i := 0) rfl dX8_nextLink_13 (sd_getR clsX8 (f := 0) (by decide) (fun _ _ _ => rfl) mw_431 dX8_nextLink_14 (sd_getR clsX7 (f := 4) (by decide) (fun _ _ _ => rfl) mw_155 dX8_nextLink_17 (sd_iload_n (i := 3) rfl dX8_nextLink_20 (sd_iaload dX8_nextLink_21 (sd_iload_n (i := 1) rfl dX8_nextLink_22 (sd_icmp_ne (tgt := 38) (by decide) dX8_nextLink_23 (sd_iconst (v := 0) (by decide) dX8_nextLink_38 (Sd.go)) (sd_aload_n (i := 0) rfl dX8_nextLink_26 (sd_iload_n (i := 3) rfl dX8_nextLink_27 (sd_callV (Y' := YX8_isChanged) (mc' := 0) (ms' := 0) (n := 1) clsX8.1 mw_910 mw_912 mw_32 mw_100 mw_913 rfl (okmX8_isChanged) (by decide) (Nat.le_refl _) (by decide) (by decide) dX8_nextLink_28 (sd_if_eq (tgt := 38) (by decide) dX8_nextLink_31 (sd_iconst (v := 0) (by decide) dX8_nextLink_38 (Sd.go)) (sd_iconst (v := 1) (by decide) dX8_nextLink_34 (sd_goto (tgt := 39) (by decide) dX8_nextLink_35 (Sd.go)))))))))))))))))) : Sd l E YX8_nextLink (d + 1) 0 0 Q 0 0 2 (bX8_nextLink_2 l E d Q)) ls st h hB
def bX8_nextLink_39 (l : Launch) (E : Ev) (d : Nat) (Q : Option Value → Hp → Prop) : Kt := k_istore 4 (k_iload 4 (k_if_eq (k_iinc 3 1 (Go l E YX8_nextLink (d + 1) 0 0 Q 0 0 2)) (k_iload 2 (k_aload 0 (k_getJ 8 19 18 (k_iload 3 (k_callS l E YX3_playerIn d 0 0 2 (k_ishr (k_push (.int 1) (k_iand (k_if_ne (k_iinc 3 1 (Go l E YX8_nextLink (d + 1) 0 0 Q 0 0 2)) (k_iload 3 (k_iret .int Q)))))))))))))
set_option maxRecDepth 100000 in
set_option maxHeartbeats 4000000 in
theorem gX8_nextLink_39 {l : Launch} {E : Ev} {d : Nat} {Q : Option Value → Hp → Prop} {ls : Lv} {st : List Value} {h : Hp} (hB : bX8_nextLink_39 l E d Q ls st h) : Go l E YX8_nextLink (d + 1) 0 0 Q 0 0 39 ls st h :=
  (sd_istore (i := 4) (by decide) dX8_nextLink_39 (sd_iload (n := 4) dX8_nextLink_41 (sd_if_eq (tgt := 63) (by decide) dX8_nextLink_43 (sd_iinc (i := 3) (v := 1) (by decide) (by decide) dX8_nextLink_63 (sd_goto (tgt := 2) (by decide) dX8_nextLink_66 (Sd.go))) (sd_iload_n (i := 2) rfl dX8_nextLink_46 (sd_aload_n (i := 0) rfl dX8_nextLink_47 (sd_getJ clsX8 (f := 18) (by decide) (fun _ _ _ => rfl) mw_449 dX8_nextLink_48 (sd_iload_n (i := 3) rfl dX8_nextLink_51 (sd_callS (Y' := YX3_playerIn) (mc' := 0) (ms' := 0) (n := 2) mw_902 mw_903 mw_104 mw_904 (okmX3_playerIn) (by decide) (Nat.le_refl _) (by decide) (by decide) dX8_nextLink_52 (sd_ishr dX8_nextLink_55 (sd_iconst (v := 1) (by decide) dX8_nextLink_56 (sd_iand dX8_nextLink_57 (sd_if_ne (tgt := 63) (by decide) dX8_nextLink_58 (sd_iinc (i := 3) (v := 1) (by decide) (by decide) dX8_nextLink_63 (sd_goto (tgt := 2) (by decide) dX8_nextLink_66 (Sd.go))) (sd_iload_n (i := 3) rfl dX8_nextLink_61 (sd_iret (ty := .int) rfl (by decide) (by decide) dX8_nextLink_62))))))))))))) : Sd l E YX8_nextLink (d + 1) 0 0 Q 0 0 39 (bX8_nextLink_39 l E d Q)) ls st h hB
theorem eX8_nextLink {l : Launch} {E : Ev} {d : Nat} {Q : Option Value → Hp → Prop} {h : Hp} {a0 : Nat} {x1 : Int32} {x2 : Int32} (hk : Go l E YX8_nextLink d 0 0 Q 0 0 0 [some (.ref a0), some (.int x1), some (.int x2), none, none] [] h) : GoM l E YX8_nextLink d 0 0 [.ref a0, .int x1, .int x2] h Q := GoM.of (by decide +kernel) rfl (by simp [entA, YX8_nextLink]) hk
theorem dX8_firstWrong_0 : decode cX8_firstWrong 0 = .ok (.iconst 0, 1) := by decide +kernel
theorem dX8_firstWrong_1 : decode cX8_firstWrong 1 = .ok (.istore_n 1, 1) := by decide +kernel
theorem dX8_firstWrong_2 : decode cX8_firstWrong 2 = .ok (.iload_n 1, 1) := by decide +kernel
theorem dX8_firstWrong_3 : decode cX8_firstWrong 3 = .ok (.aload_n 0, 1) := by decide +kernel
theorem dX8_firstWrong_4 : decode cX8_firstWrong 4 = .ok (.getfield 10, 3) := by decide +kernel
theorem dX8_firstWrong_7 : decode cX8_firstWrong 7 = .ok (.getfield 225, 3) := by decide +kernel
theorem dX8_firstWrong_10 : decode cX8_firstWrong 10 = .ok (.if_icmp .ge 71, 3) := by decide +kernel
theorem dX8_firstWrong_13 : decode cX8_firstWrong 13 = .ok (.aload_n 0, 1) := by decide +kernel
theorem dX8_firstWrong_14 : decode cX8_firstWrong 14 = .ok (.getfield 10, 3) := by decide +kernel
theorem dX8_firstWrong_17 : decode cX8_firstWrong 17 = .ok (.getfield 228, 3) := by decide +kernel
theorem dX8_firstWrong_20 : decode cX8_firstWrong 20 = .ok (.iload_n 1, 1) := by decide +kernel
theorem dX8_firstWrong_21 : decode cX8_firstWrong 21 = .ok (.iaload, 1) := by decide +kernel
theorem dX8_firstWrong_22 : decode cX8_firstWrong 22 = .ok (.istore_n 2, 1) := by decide +kernel
theorem dX8_firstWrong_23 : decode cX8_firstWrong 23 = .ok (.aload_n 0, 1) := by decide +kernel
theorem dX8_firstWrong_24 : decode cX8_firstWrong 24 = .ok (.getfield 45, 3) := by decide +kernel
theorem dX8_firstWrong_27 : decode cX8_firstWrong 27 = .ok (.getfield 364, 3) := by decide +kernel
theorem dX8_firstWrong_30 : decode cX8_firstWrong 30 = .ok (.iload_n 2, 1) := by decide +kernel
theorem dX8_firstWrong_31 : decode cX8_firstWrong 31 = .ok (.iaload, 1) := by decide +kernel
theorem dX8_firstWrong_32 : decode cX8_firstWrong 32 = .ok (.iload_n 1, 1) := by decide +kernel
theorem dX8_firstWrong_33 : decode cX8_firstWrong 33 = .ok (.ishr, 1) := by decide +kernel
theorem dX8_firstWrong_34 : decode cX8_firstWrong 34 = .ok (.iconst 1, 1) := by decide +kernel
theorem dX8_firstWrong_35 : decode cX8_firstWrong 35 = .ok (.iand, 1) := by decide +kernel
theorem dX8_firstWrong_36 : decode cX8_firstWrong 36 = .ok (.iconst 1, 1) := by decide +kernel
theorem dX8_firstWrong_37 : decode cX8_firstWrong 37 = .ok (.if_icmp .ne 21, 3) := by decide +kernel
theorem dX8_firstWrong_40 : decode cX8_firstWrong 40 = .ok (.aload_n 0, 1) := by decide +kernel
theorem dX8_firstWrong_41 : decode cX8_firstWrong 41 = .ok (.getfield 10, 3) := by decide +kernel
theorem dX8_firstWrong_44 : decode cX8_firstWrong 44 = .ok (.getfield 148, 3) := by decide +kernel
theorem dX8_firstWrong_47 : decode cX8_firstWrong 47 = .ok (.iload_n 2, 1) := by decide +kernel
theorem dX8_firstWrong_48 : decode cX8_firstWrong 48 = .ok (.ishr, 1) := by decide +kernel
theorem dX8_firstWrong_49 : decode cX8_firstWrong 49 = .ok (.iconst 1, 1) := by decide +kernel
theorem dX8_firstWrong_50 : decode cX8_firstWrong 50 = .ok (.iand, 1) := by decide +kernel
theorem dX8_firstWrong_51 : decode cX8_firstWrong 51 = .ok (.ifCond .ne 7, 3) := by decide +kernel
theorem dX8_firstWrong_54 : decode cX8_firstWrong 54 = .ok (.iconst 1, 1) := by decide +kernel
theorem dX8_firstWrong_55 : decode cX8_firstWrong 55 = .ok (.goto 4, 3) := by decide +kernel
theorem dX8_firstWrong_58 : decode cX8_firstWrong 58 = .ok (.iconst 0, 1) := by decide +kernel
theorem dX8_firstWrong_59 : decode cX8_firstWrong 59 = .ok (.istore_n 3, 1) := by decide +kernel
theorem dX8_firstWrong_60 : decode cX8_firstWrong 60 = .ok (.iload_n 3, 1) := by decide +kernel
theorem dX8_firstWrong_61 : decode cX8_firstWrong 61 = .ok (.ifCond .eq 12, 3) := by decide +kernel
theorem dX8_firstWrong_64 : decode cX8_firstWrong 64 = .ok (.aload_n 0, 1) := by decide +kernel
theorem dX8_firstWrong_65 : decode cX8_firstWrong 65 = .ok (.iload_n 1, 1) := by decide +kernel
theorem dX8_firstWrong_66 : decode cX8_firstWrong 66 = .ok (.iload_n 2, 1) := by decide +kernel
theorem dX8_firstWrong_67 : decode cX8_firstWrong 67 = .ok (.invokevirtual 367, 3) := by decide +kernel
theorem dX8_firstWrong_70 : decode cX8_firstWrong 70 = .ok (.ifCond .ne 5, 3) := by decide +kernel
theorem dX8_firstWrong_73 : decode cX8_firstWrong 73 = .ok (.iload_n 1, 1) := by decide +kernel
theorem dX8_firstWrong_74 : decode cX8_firstWrong 74 = .ok (.ireturn, 1) := by decide +kernel
theorem dX8_firstWrong_75 : decode cX8_firstWrong 75 = .ok (.iinc 1 1, 3) := by decide +kernel
theorem dX8_firstWrong_78 : decode cX8_firstWrong 78 = .ok (.goto (-76), 3) := by decide +kernel
theorem dX8_firstWrong_81 : decode cX8_firstWrong 81 = .ok (.iconst (-1), 1) := by decide +kernel
theorem dX8_firstWrong_82 : decode cX8_firstWrong 82 = .ok (.ireturn, 1) := by decide +kernel
def bX8_firstWrong_0 (l : Launch) (E : Ev) (d : Nat) (Q : Option Value → Hp → Prop) : Kt := k_push (.int 0) (k_istore 1 (Go l E YX8_firstWrong (d + 1) 0 0 Q 0 0 2))
set_option maxRecDepth 100000 in
set_option maxHeartbeats 4000000 in
theorem gX8_firstWrong_0 {l : Launch} {E : Ev} {d : Nat} {Q : Option Value → Hp → Prop} {ls : Lv} {st : List Value} {h : Hp} (hB : bX8_firstWrong_0 l E d Q ls st h) : Go l E YX8_firstWrong (d + 1) 0 0 Q 0 0 0 ls st h :=
  (sd_iconst (v := 0) (by decide) dX8_firstWrong_0 (sd_istore_n (i := 1) rfl (by decide) dX8_firstWrong_1 (Sd.go)) : Sd l E YX8_firstWrong (d + 1) 0 0 Q 0 0 0 (bX8_firstWrong_0 l E d Q)) ls st h hB
def bX8_firstWrong_2 (l : Launch) (E : Ev) (d : Nat) (Q : Option Value → Hp → Prop) : Kt := k_iload 1 (k_aload 0 (k_getR 8 19 0 (k_getI 7 15 14 (k_icmp_ge (k_push (.int (-1)) (k_iret .int Q)) (k_aload 0 (k_getR 8 19 0 (k_getR 7 15 13 (k_iload 1 (k_iaload (k_istore 2 (k_aload 0 (k_getR 8 19 11 (k_getR 0 7 2 (k_iload 2 (k_iaload (k_iload 1 (k_ishr (k_push (.int 1) (k_iand (k_push (.int 1) (k_icmp_ne (k_push (.int 0) (Go l E YX8_firstWrong (d + 1) 0 0 Q 0 0 59)) (k_aload 0 (k_getR 8 19 0 (k_getI 7 15 6 (k_iload 2 (k_ishr (k_push (.int 1) (k_iand (k_if_ne (k_push (.int 0) (Go l E YX8_firstWrong (d + 1) 0 0 Q 0 0 59)) (k_push (.int 1) (Go l E YX8_firstWrong (d + 1) 0 0 Q 0 0 59)))))))))))))))))))))))))))))))
set_option maxRecDepth 100000 in
set_option maxHeartbeats 4000000 in
theorem gX8_firstWrong_2 {l : Launch} {E : Ev} {d : Nat} {Q : Option Value → Hp → Prop} {ls : Lv} {st : List Value} {h : Hp} (hB : bX8_firstWrong_2 l E d Q ls st h) : Go l E YX8_firstWrong (d + 1) 0 0 Q 0 0 2 ls st h :=
  (sd_iload_n (i := 1) rfl dX8_firstWrong_2 (sd_aload_n (i := 0) rfl dX8_firstWrong_3 (sd_getR clsX8 (f := 0) (by decide) (fun _ _ _ => rfl) mw_431 dX8_firstWrong_4 (sd_getI clsX7 (f := 14) (by decide) (fun _ _ _ => rfl) mw_182 dX8_firstWrong_7 (sd_icmp_ge (tgt := 81) (by decide) dX8_firstWrong_10 (sd_iconst (v := (-1)) (by decide) dX8_firstWrong_81 (sd_iret (ty := .int) rfl (by decide) (by decide) dX8_firstWrong_82)) (sd_aload_n (i := 0) rfl dX8_firstWrong_13 (sd_getR clsX8 (f := 0) (by decide) (fun _ _ _ => rfl) mw_431 dX8_firstWrong_14 (sd_getR clsX7 (f := 13) (by decide) (fun _ _ _ => rfl) mw_180 dX8_firstWrong_17 (sd_iload_n (i := 1) rfl dX8_firstWrong_20 (sd_iaload dX8_firstWrong_21 (sd_istore_n (i := 2) rfl (by decide) dX8_firstWrong_22 (sd_aload_n (i := 0) rfl dX8_firstWrong_23 (sd_getR clsX8 (f := 11) (by decide) (fun _ _ _ => rfl) mw_442 dX8_firstWrong_24 (sd_getR clsX0 (f := 2) (by decide) (fun _ _ _ => rfl) mw_277 dX8_firstWrong_27 (sd_iload_n (i := 2) rfl dX8_firstWrong_30 (sd_iaload dX8_firstWrong_31 (sd_iload_n (i := 1) rfl dX8_firstWrong_32 (sd_ishr dX8_firstWrong_33 (sd_iconst (v := 1) (by decide) dX8_firstWrong_34 (sd_iand dX8_firstWrong_35 (sd_iconst (v := 1) (by decide) dX8_firstWrong_36 (sd_icmp_ne (tgt := 58) (by decide) dX8_firstWrong_37 (sd_iconst (v := 0) (by decide) dX8_firstWrong_58 (Sd.go)) (sd_aload_n (i := 0) rfl dX8_firstWrong_40 (sd_getR clsX8 (f := 0) (by decide) (fun _ _ _ => rfl) mw_431 dX8_firstWrong_41 (sd_getI clsX7 (f := 6) (by decide) (fun _ _ _ => rfl) mw_161 dX8_firstWrong_44 (sd_iload_n (i := 2) rfl dX8_firstWrong_47 (sd_ishr dX8_firstWrong_48 (sd_iconst (v := 1) (by decide) dX8_firstWrong_49 (sd_iand dX8_firstWrong_50 (sd_if_ne (tgt := 58) (by decide) dX8_firstWrong_51 (sd_iconst (v := 0) (by decide) dX8_firstWrong_58 (Sd.go)) (sd_iconst (v := 1) (by decide) dX8_firstWrong_54 (sd_goto (tgt := 59) (by decide) dX8_firstWrong_55 (Sd.go)))))))))))))))))))))))))))))))) : Sd l E YX8_firstWrong (d + 1) 0 0 Q 0 0 2 (bX8_firstWrong_2 l E d Q)) ls st h hB
def bX8_firstWrong_59 (l : Launch) (E : Ev) (d : Nat) (Q : Option Value → Hp → Prop) : Kt := k_istore 3 (k_iload 3 (k_if_eq (k_iload 1 (k_iret .int Q)) (k_aload 0 (k_iload 1 (k_iload 2 (k_callV l E 8 19 YX8_fitsAhead d 0 0 2 (k_if_ne (k_iinc 1 1 (Go l E YX8_firstWrong (d + 1) 0 0 Q 0 0 2)) (k_iload 1 (k_iret .int Q)))))))))
set_option maxRecDepth 100000 in
set_option maxHeartbeats 4000000 in
theorem gX8_firstWrong_59 {l : Launch} {E : Ev} {d : Nat} {Q : Option Value → Hp → Prop} {ls : Lv} {st : List Value} {h : Hp} (hB : bX8_firstWrong_59 l E d Q ls st h) : Go l E YX8_firstWrong (d + 1) 0 0 Q 0 0 59 ls st h :=
  (sd_istore_n (i := 3) rfl (by decide) dX8_firstWrong_59 (sd_iload_n (i := 3) rfl dX8_firstWrong_60 (sd_if_eq (tgt := 73) (by decide) dX8_firstWrong_61 (sd_iload_n (i := 1) rfl dX8_firstWrong_73 (sd_iret (ty := .int) rfl (by decide) (by decide) dX8_firstWrong_74)) (sd_aload_n (i := 0) rfl dX8_firstWrong_64 (sd_iload_n (i := 1) rfl dX8_firstWrong_65 (sd_iload_n (i := 2) rfl dX8_firstWrong_66 (sd_callV (Y' := YX8_fitsAhead) (mc' := 0) (ms' := 0) (n := 2) clsX8.1 mw_954 mw_956 mw_37 mw_100 mw_957 rfl (okmX8_fitsAhead) (by decide) (Nat.le_refl _) (by decide) (by decide) dX8_firstWrong_67 (sd_if_ne (tgt := 75) (by decide) dX8_firstWrong_70 (sd_iinc (i := 1) (v := 1) (by decide) (by decide) dX8_firstWrong_75 (sd_goto (tgt := 2) (by decide) dX8_firstWrong_78 (Sd.go))) (sd_iload_n (i := 1) rfl dX8_firstWrong_73 (sd_iret (ty := .int) rfl (by decide) (by decide) dX8_firstWrong_74))))))))) : Sd l E YX8_firstWrong (d + 1) 0 0 Q 0 0 59 (bX8_firstWrong_59 l E d Q)) ls st h hB
theorem eX8_firstWrong {l : Launch} {E : Ev} {d : Nat} {Q : Option Value → Hp → Prop} {h : Hp} {a0 : Nat} (hk : Go l E YX8_firstWrong d 0 0 Q 0 0 0 [some (.ref a0), none, none, none] [] h) : GoM l E YX8_firstWrong d 0 0 [.ref a0] h Q := GoM.of (by decide +kernel) rfl (by simp [entA, YX8_firstWrong]) hk
theorem dX8_fitsAhead_0 : decode cX8_fitsAhead 0 = .ok (.iconst 0, 1) := by decide +kernel
theorem dX8_fitsAhead_1 : decode cX8_fitsAhead 1 = .ok (.istore_n 3, 1) := by decide +kernel
theorem dX8_fitsAhead_2 : decode cX8_fitsAhead 2 = .ok (.iconst 0, 1) := by decide +kernel
theorem dX8_fitsAhead_3 : decode cX8_fitsAhead 3 = .ok (.istore 4, 2) := by decide +kernel
theorem dX8_fitsAhead_5 : decode cX8_fitsAhead 5 = .ok (.iload 4, 2) := by decide +kernel
theorem dX8_fitsAhead_7 : decode cX8_fitsAhead 7 = .ok (.iload_n 1, 1) := by decide +kernel
theorem dX8_fitsAhead_8 : decode cX8_fitsAhead 8 = .ok (.if_icmp .ge 50, 3) := by decide +kernel
theorem dX8_fitsAhead_11 : decode cX8_fitsAhead 11 = .ok (.aload_n 0, 1) := by decide +kernel
theorem dX8_fitsAhead_12 : decode cX8_fitsAhead 12 = .ok (.getfield 10, 3) := by decide +kernel
theorem dX8_fitsAhead_15 : decode cX8_fitsAhead 15 = .ok (.getfield 228, 3) := by decide +kernel
theorem dX8_fitsAhead_18 : decode cX8_fitsAhead 18 = .ok (.iload 4, 2) := by decide +kernel
theorem dX8_fitsAhead_20 : decode cX8_fitsAhead 20 = .ok (.iaload, 1) := by decide +kernel
theorem dX8_fitsAhead_21 : decode cX8_fitsAhead 21 = .ok (.iload_n 2, 1) := by decide +kernel
theorem dX8_fitsAhead_22 : decode cX8_fitsAhead 22 = .ok (.if_icmp .ne 30, 3) := by decide +kernel
theorem dX8_fitsAhead_25 : decode cX8_fitsAhead 25 = .ok (.iinc 3 1, 3) := by decide +kernel
theorem dX8_fitsAhead_28 : decode cX8_fitsAhead 28 = .ok (.iload_n 3, 1) := by decide +kernel
theorem dX8_fitsAhead_29 : decode cX8_fitsAhead 29 = .ok (.iconst 1, 1) := by decide +kernel
theorem dX8_fitsAhead_30 : decode cX8_fitsAhead 30 = .ok (.if_icmp .gt 20, 3) := by decide +kernel
theorem dX8_fitsAhead_33 : decode cX8_fitsAhead 33 = .ok (.aload_n 0, 1) := by decide +kernel
theorem dX8_fitsAhead_34 : decode cX8_fitsAhead 34 = .ok (.getfield 45, 3) := by decide +kernel
theorem dX8_fitsAhead_37 : decode cX8_fitsAhead 37 = .ok (.getfield 370, 3) := by decide +kernel
theorem dX8_fitsAhead_40 : decode cX8_fitsAhead 40 = .ok (.iload 4, 2) := by decide +kernel
theorem dX8_fitsAhead_42 : decode cX8_fitsAhead 42 = .ok (.iaload, 1) := by decide +kernel
theorem dX8_fitsAhead_43 : decode cX8_fitsAhead 43 = .ok (.iload_n 1, 1) := by decide +kernel
theorem dX8_fitsAhead_44 : decode cX8_fitsAhead 44 = .ok (.ishr, 1) := by decide +kernel
theorem dX8_fitsAhead_45 : decode cX8_fitsAhead 45 = .ok (.iconst 1, 1) := by decide +kernel
theorem dX8_fitsAhead_46 : decode cX8_fitsAhead 46 = .ok (.iand, 1) := by decide +kernel
theorem dX8_fitsAhead_47 : decode cX8_fitsAhead 47 = .ok (.ifCond .ne 5, 3) := by decide +kernel
theorem dX8_fitsAhead_50 : decode cX8_fitsAhead 50 = .ok (.iconst 0, 1) := by decide +kernel
theorem dX8_fitsAhead_51 : decode cX8_fitsAhead 51 = .ok (.ireturn, 1) := by decide +kernel
theorem dX8_fitsAhead_52 : decode cX8_fitsAhead 52 = .ok (.iinc 4 1, 3) := by decide +kernel
theorem dX8_fitsAhead_55 : decode cX8_fitsAhead 55 = .ok (.goto (-50), 3) := by decide +kernel
theorem dX8_fitsAhead_58 : decode cX8_fitsAhead 58 = .ok (.iconst 1, 1) := by decide +kernel
theorem dX8_fitsAhead_59 : decode cX8_fitsAhead 59 = .ok (.ireturn, 1) := by decide +kernel
def bX8_fitsAhead_0 (l : Launch) (E : Ev) (d : Nat) (Q : Option Value → Hp → Prop) : Kt := k_push (.int 0) (k_istore 3 (k_push (.int 0) (k_istore 4 (Go l E YX8_fitsAhead (d + 1) 0 0 Q 0 0 5))))
set_option maxRecDepth 100000 in
set_option maxHeartbeats 4000000 in
theorem gX8_fitsAhead_0 {l : Launch} {E : Ev} {d : Nat} {Q : Option Value → Hp → Prop} {ls : Lv} {st : List Value} {h : Hp} (hB : bX8_fitsAhead_0 l E d Q ls st h) : Go l E YX8_fitsAhead (d + 1) 0 0 Q 0 0 0 ls st h :=
  (sd_iconst (v := 0) (by decide) dX8_fitsAhead_0 (sd_istore_n (i := 3) rfl (by decide) dX8_fitsAhead_1 (sd_iconst (v := 0) (by decide) dX8_fitsAhead_2 (sd_istore (i := 4) (by decide) dX8_fitsAhead_3 (Sd.go)))) : Sd l E YX8_fitsAhead (d + 1) 0 0 Q 0 0 0 (bX8_fitsAhead_0 l E d Q)) ls st h hB
def bX8_fitsAhead_5 (l : Launch) (E : Ev) (d : Nat) (Q : Option Value → Hp → Prop) : Kt := k_iload 4 (k_iload 1 (k_icmp_ge (k_push (.int 1) (k_iret .boolean Q)) (k_aload 0 (k_getR 8 19 0 (k_getR 7 15 13 (k_iload 4 (k_iaload (k_iload 2 (k_icmp_ne (k_iinc 4 1 (Go l E YX8_fitsAhead (d + 1) 0 0 Q 0 0 5)) (k_iinc 3 1 (k_iload 3 (k_push (.int 1) (k_icmp_gt (k_push (.int 0) (k_iret .boolean Q)) (k_aload 0 (k_getR 8 19 11 (k_getR 0 7 4 (k_iload 4 (k_iaload (k_iload 1 (k_ishr (k_push (.int 1) (k_iand (k_if_ne (k_iinc 4 1 (Go l E YX8_fitsAhead (d + 1) 0 0 Q 0 0 5)) (k_push (.int 0) (k_iret .boolean Q)))))))))))))))))))))))))
set_option maxRecDepth 100000 in
set_option maxHeartbeats 4000000 in
theorem gX8_fitsAhead_5 {l : Launch} {E : Ev} {d : Nat} {Q : Option Value → Hp → Prop} {ls : Lv} {st : List Value} {h : Hp} (hB : bX8_fitsAhead_5 l E d Q ls st h) : Go l E YX8_fitsAhead (d + 1) 0 0 Q 0 0 5 ls st h :=
  (sd_iload (n := 4) dX8_fitsAhead_5 (sd_iload_n (i := 1) rfl dX8_fitsAhead_7 (sd_icmp_ge (tgt := 58) (by decide) dX8_fitsAhead_8 (sd_iconst (v := 1) (by decide) dX8_fitsAhead_58 (sd_iret (ty := .boolean) rfl (by decide) (by decide) dX8_fitsAhead_59)) (sd_aload_n (i := 0) rfl dX8_fitsAhead_11 (sd_getR clsX8 (f := 0) (by decide) (fun _ _ _ => rfl) mw_431 dX8_fitsAhead_12 (sd_getR clsX7 (f := 13) (by decide) (fun _ _ _ => rfl) mw_180 dX8_fitsAhead_15 (sd_iload (n := 4) dX8_fitsAhead_18 (sd_iaload dX8_fitsAhead_20 (sd_iload_n (i := 2) rfl dX8_fitsAhead_21 (sd_icmp_ne (tgt := 52) (by decide) dX8_fitsAhead_22 (sd_iinc (i := 4) (v := 1) (by decide) (by decide) dX8_fitsAhead_52 (sd_goto (tgt := 5) (by decide) dX8_fitsAhead_55 (Sd.go))) (sd_iinc (i := 3) (v := 1) (by decide) (by decide) dX8_fitsAhead_25 (sd_iload_n (i := 3) rfl dX8_fitsAhead_28 (sd_iconst (v := 1) (by decide) dX8_fitsAhead_29 (sd_icmp_gt (tgt := 50) (by decide) dX8_fitsAhead_30 (sd_iconst (v := 0) (by decide) dX8_fitsAhead_50 (sd_iret (ty := .boolean) rfl (by decide) (by decide) dX8_fitsAhead_51)) (sd_aload_n (i := 0) rfl dX8_fitsAhead_33 (sd_getR clsX8 (f := 11) (by decide) (fun _ _ _ => rfl) mw_442 dX8_fitsAhead_34 (sd_getR clsX0 (f := 4) (by decide) (fun _ _ _ => rfl) mw_284 dX8_fitsAhead_37 (sd_iload (n := 4) dX8_fitsAhead_40 (sd_iaload dX8_fitsAhead_42 (sd_iload_n (i := 1) rfl dX8_fitsAhead_43 (sd_ishr dX8_fitsAhead_44 (sd_iconst (v := 1) (by decide) dX8_fitsAhead_45 (sd_iand dX8_fitsAhead_46 (sd_if_ne (tgt := 52) (by decide) dX8_fitsAhead_47 (sd_iinc (i := 4) (v := 1) (by decide) (by decide) dX8_fitsAhead_52 (sd_goto (tgt := 5) (by decide) dX8_fitsAhead_55 (Sd.go))) (sd_iconst (v := 0) (by decide) dX8_fitsAhead_50 (sd_iret (ty := .boolean) rfl (by decide) (by decide) dX8_fitsAhead_51))))))))))))))))))))))))) : Sd l E YX8_fitsAhead (d + 1) 0 0 Q 0 0 5 (bX8_fitsAhead_5 l E d Q)) ls st h hB
theorem eX8_fitsAhead {l : Launch} {E : Ev} {d : Nat} {Q : Option Value → Hp → Prop} {h : Hp} {a0 : Nat} {x1 : Int32} {x2 : Int32} (hk : Go l E YX8_fitsAhead d 0 0 Q 0 0 0 [some (.ref a0), some (.int x1), some (.int x2), none, none] [] h) : GoM l E YX8_fitsAhead d 0 0 [.ref a0, .int x1, .int x2] h Q := GoM.of (by decide +kernel) rfl (by simp [entA, YX8_fitsAhead]) hk
theorem dX8_toldCost_0 : decode cX8_toldCost 0 = .ok (.iconst 0, 1) := by decide +kernel
theorem dX8_toldCost_1 : decode cX8_toldCost 1 = .ok (.istore_n 1, 1) := by decide +kernel
theorem dX8_toldCost_2 : decode cX8_toldCost 2 = .ok (.iconst 0, 1) := by decide +kernel
theorem dX8_toldCost_3 : decode cX8_toldCost 3 = .ok (.istore_n 2, 1) := by decide +kernel
theorem dX8_toldCost_4 : decode cX8_toldCost 4 = .ok (.iload_n 2, 1) := by decide +kernel
theorem dX8_toldCost_5 : decode cX8_toldCost 5 = .ok (.aload_n 0, 1) := by decide +kernel
theorem dX8_toldCost_6 : decode cX8_toldCost 6 = .ok (.getfield 10, 3) := by decide +kernel
theorem dX8_toldCost_9 : decode cX8_toldCost 9 = .ok (.getfield 225, 3) := by decide +kernel
theorem dX8_toldCost_12 : decode cX8_toldCost 12 = .ok (.if_icmp .ge 34, 3) := by decide +kernel
theorem dX8_toldCost_15 : decode cX8_toldCost 15 = .ok (.iload_n 1, 1) := by decide +kernel
theorem dX8_toldCost_16 : decode cX8_toldCost 16 = .ok (.aload_n 0, 1) := by decide +kernel
theorem dX8_toldCost_17 : decode cX8_toldCost 17 = .ok (.getfield 45, 3) := by decide +kernel
theorem dX8_toldCost_20 : decode cX8_toldCost 20 = .ok (.getfield 373, 3) := by decide +kernel
theorem dX8_toldCost_23 : decode cX8_toldCost 23 = .ok (.aload_n 0, 1) := by decide +kernel
theorem dX8_toldCost_24 : decode cX8_toldCost 24 = .ok (.getfield 10, 3) := by decide +kernel
theorem dX8_toldCost_27 : decode cX8_toldCost 27 = .ok (.getfield 228, 3) := by decide +kernel
theorem dX8_toldCost_30 : decode cX8_toldCost 30 = .ok (.iload_n 2, 1) := by decide +kernel
theorem dX8_toldCost_31 : decode cX8_toldCost 31 = .ok (.iaload, 1) := by decide +kernel
theorem dX8_toldCost_32 : decode cX8_toldCost 32 = .ok (.bipush 8, 2) := by decide +kernel
theorem dX8_toldCost_34 : decode cX8_toldCost 34 = .ok (.imul, 1) := by decide +kernel
theorem dX8_toldCost_35 : decode cX8_toldCost 35 = .ok (.iload_n 2, 1) := by decide +kernel
theorem dX8_toldCost_36 : decode cX8_toldCost 36 = .ok (.iadd, 1) := by decide +kernel
theorem dX8_toldCost_37 : decode cX8_toldCost 37 = .ok (.iaload, 1) := by decide +kernel
theorem dX8_toldCost_38 : decode cX8_toldCost 38 = .ok (.iadd, 1) := by decide +kernel
theorem dX8_toldCost_39 : decode cX8_toldCost 39 = .ok (.istore_n 1, 1) := by decide +kernel
theorem dX8_toldCost_40 : decode cX8_toldCost 40 = .ok (.iinc 2 1, 3) := by decide +kernel
theorem dX8_toldCost_43 : decode cX8_toldCost 43 = .ok (.goto (-39), 3) := by decide +kernel
theorem dX8_toldCost_46 : decode cX8_toldCost 46 = .ok (.iload_n 1, 1) := by decide +kernel
theorem dX8_toldCost_47 : decode cX8_toldCost 47 = .ok (.ireturn, 1) := by decide +kernel
def bX8_toldCost_0 (l : Launch) (E : Ev) (d : Nat) (Q : Option Value → Hp → Prop) : Kt := k_push (.int 0) (k_istore 1 (k_push (.int 0) (k_istore 2 (Go l E YX8_toldCost (d + 1) 0 0 Q 0 0 4))))
set_option maxRecDepth 100000 in
set_option maxHeartbeats 4000000 in
theorem gX8_toldCost_0 {l : Launch} {E : Ev} {d : Nat} {Q : Option Value → Hp → Prop} {ls : Lv} {st : List Value} {h : Hp} (hB : bX8_toldCost_0 l E d Q ls st h) : Go l E YX8_toldCost (d + 1) 0 0 Q 0 0 0 ls st h :=
  (sd_iconst (v := 0) (by decide) dX8_toldCost_0 (sd_istore_n (i := 1) rfl (by decide) dX8_toldCost_1 (sd_iconst (v := 0) (by decide) dX8_toldCost_2 (sd_istore_n (i := 2) rfl (by decide) dX8_toldCost_3 (Sd.go)))) : Sd l E YX8_toldCost (d + 1) 0 0 Q 0 0 0 (bX8_toldCost_0 l E d Q)) ls st h hB
def bX8_toldCost_4 (l : Launch) (E : Ev) (d : Nat) (Q : Option Value → Hp → Prop) : Kt := k_iload 2 (k_aload 0 (k_getR 8 19 0 (k_getI 7 15 14 (k_icmp_ge (k_iload 1 (k_iret .int Q)) (k_iload 1 (k_aload 0 (k_getR 8 19 11 (k_getR 0 7 3 (k_aload 0 (k_getR 8 19 0 (k_getR 7 15 13 (k_iload 2 (k_iaload (k_push (.int 8) (k_imul (k_iload 2 (k_iadd (k_iaload (k_iadd (k_istore 1 (k_iinc 2 1 (Go l E YX8_toldCost (d + 1) 0 0 Q 0 0 4))))))))))))))))))))))
set_option maxRecDepth 100000 in
set_option maxHeartbeats 4000000 in
theorem gX8_toldCost_4 {l : Launch} {E : Ev} {d : Nat} {Q : Option Value → Hp → Prop} {ls : Lv} {st : List Value} {h : Hp} (hB : bX8_toldCost_4 l E d Q ls st h) : Go l E YX8_toldCost (d + 1) 0 0 Q 0 0 4 ls st h :=
  (sd_iload_n (i := 2) rfl dX8_toldCost_4 (sd_aload_n (i := 0) rfl dX8_toldCost_5 (sd_getR clsX8 (f := 0) (by decide) (fun _ _ _ => rfl) mw_431 dX8_toldCost_6 (sd_getI clsX7 (f := 14) (by decide) (fun _ _ _ => rfl) mw_182 dX8_toldCost_9 (sd_icmp_ge (tgt := 46) (by decide) dX8_toldCost_12 (sd_iload_n (i := 1) rfl dX8_toldCost_46 (sd_iret (ty := .int) rfl (by decide) (by decide) dX8_toldCost_47)) (sd_iload_n (i := 1) rfl dX8_toldCost_15 (sd_aload_n (i := 0) rfl dX8_toldCost_16 (sd_getR clsX8 (f := 11) (by decide) (fun _ _ _ => rfl) mw_442 dX8_toldCost_17 (sd_getR clsX0 (f := 3) (by decide) (fun _ _ _ => rfl) mw_280 dX8_toldCost_20 (sd_aload_n (i := 0) rfl dX8_toldCost_23 (sd_getR clsX8 (f := 0) (by decide) (fun _ _ _ => rfl) mw_431 dX8_toldCost_24 (sd_getR clsX7 (f := 13) (by decide) (fun _ _ _ => rfl) mw_180 dX8_toldCost_27 (sd_iload_n (i := 2) rfl dX8_toldCost_30 (sd_iaload dX8_toldCost_31 (sd_bipush (v := 8) (by decide) dX8_toldCost_32 (sd_imul dX8_toldCost_34 (sd_iload_n (i := 2) rfl dX8_toldCost_35 (sd_iadd dX8_toldCost_36 (sd_iaload dX8_toldCost_37 (sd_iadd dX8_toldCost_38 (sd_istore_n (i := 1) rfl (by decide) dX8_toldCost_39 (sd_iinc (i := 2) (v := 1) (by decide) (by decide) dX8_toldCost_40 (sd_goto (tgt := 4) (by decide) dX8_toldCost_43 (Sd.go))))))))))))))))))))))) : Sd l E YX8_toldCost (d + 1) 0 0 Q 0 0 4 (bX8_toldCost_4 l E d Q)) ls st h hB
theorem eX8_toldCost {l : Launch} {E : Ev} {d : Nat} {Q : Option Value → Hp → Prop} {h : Hp} {a0 : Nat} (hk : Go l E YX8_toldCost d 0 0 Q 0 0 0 [some (.ref a0), none, none] [] h) : GoM l E YX8_toldCost d 0 0 [.ref a0] h Q := GoM.of (by decide +kernel) rfl (by simp [entA, YX8_toldCost]) hk
