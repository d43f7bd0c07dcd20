theorem dX9_partAt_0 : decode cX9_partAt 0 = .ok (.iconst (-1), 1) := by decide +kernel
theorem dX9_partAt_1 : decode cX9_partAt 1 = .ok (.istore_n 1, 1) := by decide +kernel
theorem dX9_partAt_2 : decode cX9_partAt 2 = .ok (.iconst 0, 1) := by decide +kernel
theorem dX9_partAt_3 : decode cX9_partAt 3 = .ok (.istore_n 2, 1) := by decide +kernel
theorem dX9_partAt_4 : decode cX9_partAt 4 = .ok (.iload_n 2, 1) := by decide +kernel
theorem dX9_partAt_5 : decode cX9_partAt 5 = .ok (.bipush 10, 2) := by decide +kernel
theorem dX9_partAt_7 : decode cX9_partAt 7 = .ok (.if_icmp .ge 30, 3) := by decide +kernel
theorem dX9_partAt_10 : decode cX9_partAt 10 = .ok (.aload_n 0, 1) := by decide +kernel
theorem dX9_partAt_11 : decode cX9_partAt 11 = .ok (.aload_n 0, 1) := by decide +kernel
theorem dX9_partAt_12 : decode cX9_partAt 12 = .ok (.getfield 65, 3) := by decide +kernel
theorem dX9_partAt_15 : decode cX9_partAt 15 = .ok (.iload_n 2, 1) := by decide +kernel
theorem dX9_partAt_16 : decode cX9_partAt 16 = .ok (.laload, 1) := by decide +kernel
theorem dX9_partAt_17 : decode cX9_partAt 17 = .ok (.invokevirtual 244, 3) := by decide +kernel
theorem dX9_partAt_20 : decode cX9_partAt 20 = .ok (.ifCond .eq 9, 3) := by decide +kernel
theorem dX9_partAt_23 : decode cX9_partAt 23 = .ok (.iload_n 2, 1) := by decide +kernel
theorem dX9_partAt_24 : decode cX9_partAt 24 = .ok (.iconst 1, 1) := by decide +kernel
theorem dX9_partAt_25 : decode cX9_partAt 25 = .ok (.iadd, 1) := by decide +kernel
theorem dX9_partAt_26 : decode cX9_partAt 26 = .ok (.goto 4, 3) := by decide +kernel
theorem dX9_partAt_29 : decode cX9_partAt 29 = .ok (.iload_n 1, 1) := by decide +kernel
theorem dX9_partAt_30 : decode cX9_partAt 30 = .ok (.istore_n 1, 1) := by decide +kernel
theorem dX9_partAt_31 : decode cX9_partAt 31 = .ok (.iinc 2 1, 3) := by decide +kernel
theorem dX9_partAt_34 : decode cX9_partAt 34 = .ok (.goto (-30), 3) := by decide +kernel
theorem dX9_partAt_37 : decode cX9_partAt 37 = .ok (.iload_n 1, 1) := by decide +kernel
theorem dX9_partAt_38 : decode cX9_partAt 38 = .ok (.ireturn, 1) := by decide +kernel
def bX9_partAt_0 (l : Launch) (E : Ev) (d : Nat) (Q : Option Value → Hp → Prop) : Kt := k_push (.int (-1)) (k_istore 1 (k_push (.int 0) (k_istore 2 (Go l E YX9_partAt (d + 1) 0 0 Q 0 0 4))))
set_option maxRecDepth 100000 in
set_option maxHeartbeats 4000000 in
theorem gX9_partAt_0 {l : Launch} {E : Ev} {d : Nat} {Q : Option Value → Hp → Prop} {ls : Lv} {st : List Value} {h : Hp} (hB : bX9_partAt_0 l E d Q ls st h) : Go l E YX9_partAt (d + 1) 0 0 Q 0 0 0 ls st h :=
  (sd_iconst (v := (-1)) (by decide) dX9_partAt_0 (sd_istore_n (i := 1) rfl (by decide) dX9_partAt_1 (sd_iconst (v := 0) (by decide) dX9_partAt_2 (sd_istore_n (i := 2) rfl (by decide) dX9_partAt_3 (Sd.go)))) : Sd l E YX9_partAt (d + 1) 0 0 Q 0 0 0 (bX9_partAt_0 l E d Q)) ls st h hB
def bX9_partAt_4 (l : Launch) (E : Ev) (d : Nat) (Q : Option Value → Hp → Prop) : Kt := k_iload 2 (k_push (.int 10) (k_icmp_ge (k_iload 1 (k_iret .int Q)) (k_aload 0 (k_aload 0 (k_getR 9 55 25 (k_iload 2 (k_laload (k_callV l E 9 55 YX9_isWord d 0 0 1 (k_if_eq (k_iload 1 (k_istore 1 (k_iinc 2 1 (Go l E YX9_partAt (d + 1) 0 0 Q 0 0 4)))) (k_iload 2 (k_push (.int 1) (k_iadd (k_istore 1 (k_iinc 2 1 (Go l E YX9_partAt (d + 1) 0 0 Q 0 0 4)))))))))))))))
set_option maxRecDepth 100000 in
set_option maxHeartbeats 4000000 in
theorem gX9_partAt_4 {l : Launch} {E : Ev} {d : Nat} {Q : Option Value → Hp → Prop} {ls : Lv} {st : List Value} {h : Hp} (hB : bX9_partAt_4 l E d Q ls st h) : Go l E YX9_partAt (d + 1) 0 0 Q 0 0 4 ls st h :=
  (sd_iload_n (i := 2) rfl dX9_partAt_4 (sd_bipush (v := 10) (by decide) dX9_partAt_5 (sd_icmp_ge (tgt := 37) (by decide) dX9_partAt_7 (sd_iload_n (i := 1) rfl dX9_partAt_37 (sd_iret (ty := .int) rfl (by decide) (by decide) dX9_partAt_38)) (sd_aload_n (i := 0) rfl dX9_partAt_10 (sd_aload_n (i := 0) rfl dX9_partAt_11 (sd_getR clsX9 (f := 25) (by decide) (fun _ _ _ => rfl) mw_1203 dX9_partAt_12 (sd_iload_n (i := 2) rfl dX9_partAt_15 (sd_laload dX9_partAt_16 (sd_callV (Y' := YX9_isWord) (mc' := 0) (ms' := 0) (n := 1) clsX9.1 mw_1474 mw_1476 mw_55 mw_108 mw_1477 rfl (okmX9_isWord) (by decide) (Nat.le_refl _) (by decide) (by decide) dX9_partAt_17 (sd_if_eq (tgt := 29) (by decide) dX9_partAt_20 (sd_iload_n (i := 1) rfl dX9_partAt_29 (sd_istore_n (i := 1) rfl (by decide) dX9_partAt_30 (sd_iinc (i := 2) (v := 1) (by decide) (by decide) dX9_partAt_31 (sd_goto (tgt := 4) (by decide) dX9_partAt_34 (Sd.go))))) (sd_iload_n (i := 2) rfl dX9_partAt_23 (sd_iconst (v := 1) (by decide) dX9_partAt_24 (sd_iadd dX9_partAt_25 (sd_goto (tgt := 30) (by decide) dX9_partAt_26 (sd_istore_n (i := 1) rfl (by decide) dX9_partAt_30 (sd_iinc (i := 2) (v := 1) (by decide) (by decide) dX9_partAt_31 (sd_goto (tgt := 4) (by decide) dX9_partAt_34 (Sd.go))))))))))))))))) : Sd l E YX9_partAt (d + 1) 0 0 Q 0 0 4 (bX9_partAt_4 l E d Q)) ls st h hB
theorem eX9_partAt {l : Launch} {E : Ev} {d : Nat} {Q : Option Value → Hp → Prop} {h : Hp} {a0 : Nat} (hk : Go l E YX9_partAt d 0 0 Q 0 0 0 [some (.ref a0), none, none] [] h) : GoM l E YX9_partAt d 0 0 [.ref a0] h Q := GoM.of (by decide +kernel) rfl (by simp [entA, YX9_partAt]) hk
theorem dX9_openBracket_0 : decode cX9_openBracket 0 = .ok (.aload_n 0, 1) := by decide +kernel
theorem dX9_openBracket_1 : decode cX9_openBracket 1 = .ok (.aload_n 0, 1) := by decide +kernel
theorem dX9_openBracket_2 : decode cX9_openBracket 2 = .ok (.getfield 248, 3) := by decide +kernel
theorem dX9_openBracket_5 : decode cX9_openBracket 5 = .ok (.bipush 8, 2) := by decide +kernel
theorem dX9_openBracket_7 : decode cX9_openBracket 7 = .ok (.if_icmp .ge 7, 3) := by decide +kernel
theorem dX9_openBracket_10 : decode cX9_openBracket 10 = .ok (.iconst 1, 1) := by decide +kernel
theorem dX9_openBracket_11 : decode cX9_openBracket 11 = .ok (.goto 4, 3) := by decide +kernel
theorem dX9_openBracket_14 : decode cX9_openBracket 14 = .ok (.iconst 0, 1) := by decide +kernel
theorem dX9_openBracket_15 : decode cX9_openBracket 15 = .ok (.invokevirtual 219, 3) := by decide +kernel
theorem dX9_openBracket_18 : decode cX9_openBracket 18 = .ok (.aload_n 0, 1) := by decide +kernel
theorem dX9_openBracket_19 : decode cX9_openBracket 19 = .ok (.getfield 184, 3) := by decide +kernel
theorem dX9_openBracket_22 : decode cX9_openBracket 22 = .ok (.ifCond .ne 19, 3) := by decide +kernel
theorem dX9_openBracket_25 : decode cX9_openBracket 25 = .ok (.aload_n 0, 1) := by decide +kernel
theorem dX9_openBracket_26 : decode cX9_openBracket 26 = .ok (.dup, 1) := by decide +kernel
theorem dX9_openBracket_27 : decode cX9_openBracket 27 = .ok (.getfield 248, 3) := by decide +kernel
theorem dX9_openBracket_30 : decode cX9_openBracket 30 = .ok (.iconst 1, 1) := by decide +kernel
theorem dX9_openBracket_31 : decode cX9_openBracket 31 = .ok (.iadd, 1) := by decide +kernel
theorem dX9_openBracket_32 : decode cX9_openBracket 32 = .ok (.putfield 248, 3) := by decide +kernel
theorem dX9_openBracket_35 : decode cX9_openBracket 35 = .ok (.aload_n 0, 1) := by decide +kernel
theorem dX9_openBracket_36 : decode cX9_openBracket 36 = .ok (.iload_n 1, 1) := by decide +kernel
theorem dX9_openBracket_37 : decode cX9_openBracket 37 = .ok (.iconst 0, 1) := by decide +kernel
theorem dX9_openBracket_38 : decode cX9_openBracket 38 = .ok (.invokevirtual 251, 3) := by decide +kernel
theorem dX9_openBracket_41 : decode cX9_openBracket 41 = .ok (.return_, 1) := by decide +kernel
def bX9_openBracket_0 (l : Launch) (E : Ev) (d : Nat) (Q : Option Value → Hp → Prop) : Kt := k_aload 0 (k_aload 0 (k_getI 9 55 24 (k_push (.int 8) (k_icmp_ge (k_push (.int 0) (Go l E YX9_openBracket (d + 1) 0 0 Q 0 0 15)) (k_push (.int 1) (Go l E YX9_openBracket (d + 1) 0 0 Q 0 0 15))))))
set_option maxRecDepth 100000 in
set_option maxHeartbeats 4000000 in
theorem gX9_openBracket_0 {l : Launch} {E : Ev} {d : Nat} {Q : Option Value → Hp → Prop} {ls : Lv} {st : List Value} {h : Hp} (hB : bX9_openBracket_0 l E d Q ls st h) : Go l E YX9_openBracket (d + 1) 0 0 Q 0 0 0 ls st h :=
  (sd_aload_n (i := 0) rfl dX9_openBracket_0 (sd_aload_n (i := 0) rfl dX9_openBracket_1 (sd_getI clsX9 (f := 24) (by decide) (fun _ _ _ => rfl) mw_1202 dX9_openBracket_2 (sd_bipush (v := 8) (by decide) dX9_openBracket_5 (sd_icmp_ge (tgt := 14) (by decide) dX9_openBracket_7 (sd_iconst (v := 0) (by decide) dX9_openBracket_14 (Sd.go)) (sd_iconst (v := 1) (by decide) dX9_openBracket_10 (sd_goto (tgt := 15) (by decide) dX9_openBracket_11 (Sd.go))))))) : Sd l E YX9_openBracket (d + 1) 0 0 Q 0 0 0 (bX9_openBracket_0 l E d Q)) ls st h hB
def bX9_openBracket_15 (l : Launch) (E : Ev) (d : Nat) (Q : Option Value → Hp → Prop) : Kt := k_callV l E 9 55 YX9_must d 0 0 1 (k_aload 0 (k_getI 9 55 14 (k_if_ne (k_vret Q) (k_aload 0 (k_dup (k_getI 9 55 24 (k_push (.int 1) (k_iadd (k_putI 9 55 24 (k_aload 0 (k_iload 1 (k_push (.int 0) (k_callV l E 9 55 YX9_push d 0 0 2 (k_vret Q))))))))))))))
set_option maxRecDepth 100000 in
set_option maxHeartbeats 4000000 in
theorem gX9_openBracket_15 {l : Launch} {E : Ev} {d : Nat} {Q : Option Value → Hp → Prop} {ls : Lv} {st : List Value} {h : Hp} (hB : bX9_openBracket_15 l E d Q ls st h) : Go l E YX9_openBracket (d + 1) 0 0 Q 0 0 15 ls st h :=
  (sd_callV (Y' := YX9_must) (mc' := 0) (ms' := 0) (n := 1) clsX9.1 mw_1478 mw_1480 mw_56 mw_108 mw_1481 rfl (okmX9_must) (by decide) (Nat.le_refl _) (by decide) (by decide) dX9_openBracket_15 (sd_aload_n (i := 0) rfl dX9_openBracket_18 (sd_getI clsX9 (f := 14) (by decide) (fun _ _ _ => rfl) mw_1192 dX9_openBracket_19 (sd_if_ne (tgt := 41) (by decide) dX9_openBracket_22 (sd_vret rfl (by decide) (by decide) dX9_openBracket_41) (sd_aload_n (i := 0) rfl dX9_openBracket_25 (sd_dup dX9_openBracket_26 (sd_getI clsX9 (f := 24) (by decide) (fun _ _ _ => rfl) mw_1202 dX9_openBracket_27 (sd_iconst (v := 1) (by decide) dX9_openBracket_30 (sd_iadd dX9_openBracket_31 (sd_putI clsX9 (f := 24) (by decide) (fun _ _ _ => rfl) rfl (Or.inl rfl) mw_1202 dX9_openBracket_32 (sd_aload_n (i := 0) rfl dX9_openBracket_35 (sd_iload_n (i := 1) rfl dX9_openBracket_36 (sd_iconst (v := 0) (by decide) dX9_openBracket_37 (sd_callV (Y' := YX9_push) (mc' := 0) (ms' := 0) (n := 2) clsX9.1 mw_1491 mw_1493 mw_59 mw_108 mw_1494 rfl (okmX9_push) (by decide) (Nat.le_refl _) (by decide) (by decide) dX9_openBracket_38 (sd_vret rfl (by decide) (by decide) dX9_openBracket_41)))))))))))))) : Sd l E YX9_openBracket (d + 1) 0 0 Q 0 0 15 (bX9_openBracket_15 l E d Q)) ls st h hB
theorem eX9_openBracket {l : Launch} {E : Ev} {d : Nat} {Q : Option Value → Hp → Prop} {h : Hp} {a0 : Nat} {x1 : Int32} (hk : Go l E YX9_openBracket d 0 0 Q 0 0 0 [some (.ref a0), some (.int x1)] [] h) : GoM l E YX9_openBracket d 0 0 [.ref a0, .int x1] h Q := GoM.of (by decide +kernel) rfl (by simp [entA, YX9_openBracket]) hk
theorem dX9_leaf_0 : decode cX9_leaf 0 = .ok (.aload_n 0, 1) := by decide +kernel
theorem dX9_leaf_1 : decode cX9_leaf 1 = .ok (.iload_n 1, 1) := by decide +kernel
theorem dX9_leaf_2 : decode cX9_leaf 2 = .ok (.ifCond .eq 16, 3) := by decide +kernel
theorem dX9_leaf_5 : decode cX9_leaf 5 = .ok (.aload_n 0, 1) := by decide +kernel
theorem dX9_leaf_6 : decode cX9_leaf 6 = .ok (.getfield 254, 3) := by decide +kernel
theorem dX9_leaf_9 : decode cX9_leaf 9 = .ok (.bipush 50, 2) := by decide +kernel
theorem dX9_leaf_11 : decode cX9_leaf 11 = .ok (.if_icmp .ge 7, 3) := by decide +kernel
theorem dX9_leaf_14 : decode cX9_leaf 14 = .ok (.iconst 1, 1) := by decide +kernel
theorem dX9_leaf_15 : decode cX9_leaf 15 = .ok (.goto 4, 3) := by decide +kernel
theorem dX9_leaf_18 : decode cX9_leaf 18 = .ok (.iconst 0, 1) := by decide +kernel
theorem dX9_leaf_19 : decode cX9_leaf 19 = .ok (.invokevirtual 219, 3) := by decide +kernel
theorem dX9_leaf_22 : decode cX9_leaf 22 = .ok (.aload_n 0, 1) := by decide +kernel
theorem dX9_leaf_23 : decode cX9_leaf 23 = .ok (.getfield 184, 3) := by decide +kernel
theorem dX9_leaf_26 : decode cX9_leaf 26 = .ok (.ifCond .ne 19, 3) := by decide +kernel
theorem dX9_leaf_29 : decode cX9_leaf 29 = .ok (.aload_n 0, 1) := by decide +kernel
theorem dX9_leaf_30 : decode cX9_leaf 30 = .ok (.iload_n 2, 1) := by decide +kernel
theorem dX9_leaf_31 : decode cX9_leaf 31 = .ok (.iload_n 3, 1) := by decide +kernel
theorem dX9_leaf_32 : decode cX9_leaf 32 = .ok (.invokevirtual 232, 3) := by decide +kernel
theorem dX9_leaf_35 : decode cX9_leaf 35 = .ok (.aload_n 0, 1) := by decide +kernel
theorem dX9_leaf_36 : decode cX9_leaf 36 = .ok (.dup, 1) := by decide +kernel
theorem dX9_leaf_37 : decode cX9_leaf 37 = .ok (.getfield 254, 3) := by decide +kernel
theorem dX9_leaf_40 : decode cX9_leaf 40 = .ok (.iconst 1, 1) := by decide +kernel
theorem dX9_leaf_41 : decode cX9_leaf 41 = .ok (.iadd, 1) := by decide +kernel
theorem dX9_leaf_42 : decode cX9_leaf 42 = .ok (.putfield 254, 3) := by decide +kernel
theorem dX9_leaf_45 : decode cX9_leaf 45 = .ok (.return_, 1) := by decide +kernel
def bX9_leaf_0 (l : Launch) (E : Ev) (d : Nat) (Q : Option Value → Hp → Prop) : Kt := k_aload 0 (k_iload 1 (k_if_eq (k_push (.int 0) (Go l E YX9_leaf (d + 1) 0 0 Q 0 0 19)) (k_aload 0 (k_getI 9 55 20 (k_push (.int 50) (k_icmp_ge (k_push (.int 0) (Go l E YX9_leaf (d + 1) 0 0 Q 0 0 19)) (k_push (.int 1) (Go l E YX9_leaf (d + 1) 0 0 Q 0 0 19))))))))
set_option maxRecDepth 100000 in
set_option maxHeartbeats 4000000 in
theorem gX9_leaf_0 {l : Launch} {E : Ev} {d : Nat} {Q : Option Value → Hp → Prop} {ls : Lv} {st : List Value} {h : Hp} (hB : bX9_leaf_0 l E d Q ls st h) : Go l E YX9_leaf (d + 1) 0 0 Q 0 0 0 ls st h :=
  (sd_aload_n (i := 0) rfl dX9_leaf_0 (sd_iload_n (i := 1) rfl dX9_leaf_1 (sd_if_eq (tgt := 18) (by decide) dX9_leaf_2 (sd_iconst (v := 0) (by decide) dX9_leaf_18 (Sd.go)) (sd_aload_n (i := 0) rfl dX9_leaf_5 (sd_getI clsX9 (f := 20) (by decide) (fun _ _ _ => rfl) mw_1198 dX9_leaf_6 (sd_bipush (v := 50) (by decide) dX9_leaf_9 (sd_icmp_ge (tgt := 18) (by decide) dX9_leaf_11 (sd_iconst (v := 0) (by decide) dX9_leaf_18 (Sd.go)) (sd_iconst (v := 1) (by decide) dX9_leaf_14 (sd_goto (tgt := 19) (by decide) dX9_leaf_15 (Sd.go))))))))) : Sd l E YX9_leaf (d + 1) 0 0 Q 0 0 0 (bX9_leaf_0 l E d Q)) ls st h hB
def bX9_leaf_19 (l : Launch) (E : Ev) (d : Nat) (Q : Option Value → Hp → Prop) : Kt := k_callV l E 9 55 YX9_must d 0 0 1 (k_aload 0 (k_getI 9 55 14 (k_if_ne (k_vret Q) (k_aload 0 (k_iload 2 (k_iload 3 (k_callV l E 9 55 YX9_emit d 0 0 2 (k_aload 0 (k_dup (k_getI 9 55 20 (k_push (.int 1) (k_iadd (k_putI 9 55 20 (k_vret Q))))))))))))))
set_option maxRecDepth 100000 in
set_option maxHeartbeats 4000000 in
theorem gX9_leaf_19 {l : Launch} {E : Ev} {d : Nat} {Q : Option Value → Hp → Prop} {ls : Lv} {st : List Value} {h : Hp} (hB : bX9_leaf_19 l E d Q ls st h) : Go l E YX9_leaf (d + 1) 0 0 Q 0 0 19 ls st h :=
  (sd_callV (Y' := YX9_must) (mc' := 0) (ms' := 0) (n := 1) clsX9.1 mw_1478 mw_1480 mw_56 mw_108 mw_1481 rfl (okmX9_must) (by decide) (Nat.le_refl _) (by decide) (by decide) dX9_leaf_19 (sd_aload_n (i := 0) rfl dX9_leaf_22 (sd_getI clsX9 (f := 14) (by decide) (fun _ _ _ => rfl) mw_1192 dX9_leaf_23 (sd_if_ne (tgt := 45) (by decide) dX9_leaf_26 (sd_vret rfl (by decide) (by decide) dX9_leaf_45) (sd_aload_n (i := 0) rfl dX9_leaf_29 (sd_iload_n (i := 2) rfl dX9_leaf_30 (sd_iload_n (i := 3) rfl dX9_leaf_31 (sd_callV (Y' := YX9_emit) (mc' := 0) (ms' := 0) (n := 2) clsX9.1 mw_1516 mw_1518 mw_65 mw_108 mw_1519 rfl (okmX9_emit) (by decide) (Nat.le_refl _) (by decide) (by decide) dX9_leaf_32 (sd_aload_n (i := 0) rfl dX9_leaf_35 (sd_dup dX9_leaf_36 (sd_getI clsX9 (f := 20) (by decide) (fun _ _ _ => rfl) mw_1198 dX9_leaf_37 (sd_iconst (v := 1) (by decide) dX9_leaf_40 (sd_iadd dX9_leaf_41 (sd_putI clsX9 (f := 20) (by decide) (fun _ _ _ => rfl) rfl (Or.inl rfl) mw_1198 dX9_leaf_42 (sd_vret rfl (by decide) (by decide) dX9_leaf_45)))))))))))))) : Sd l E YX9_leaf (d + 1) 0 0 Q 0 0 19 (bX9_leaf_19 l E d Q)) ls st h hB
theorem eX9_leaf {l : Launch} {E : Ev} {d : Nat} {Q : Option Value → Hp → Prop} {h : Hp} {a0 : Nat} {x1 : Int32} {x2 : Int32} {x3 : Int32} (hk : Go l E YX9_leaf d 0 0 Q 0 0 0 [some (.ref a0), some (.int x1), some (.int x2), some (.int x3)] [] h) : GoM l E YX9_leaf d 0 0 [.ref a0, .int x1, .int x2, .int x3] h Q := GoM.of (by decide +kernel) rfl (by simp [entA, YX9_leaf]) hk
theorem dX9_readPart_0 : decode cX9_readPart 0 = .ok (.aload_n 0, 1) := by decide +kernel
theorem dX9_readPart_1 : decode cX9_readPart 1 = .ok (.bipush 91, 2) := by decide +kernel
theorem dX9_readPart_3 : decode cX9_readPart 3 = .ok (.invokevirtual 257, 3) := by decide +kernel
theorem dX9_readPart_6 : decode cX9_readPart 6 = .ok (.ifCond .eq 11, 3) := by decide +kernel
theorem dX9_readPart_9 : decode cX9_readPart 9 = .ok (.aload_n 0, 1) := by decide +kernel
theorem dX9_readPart_10 : decode cX9_readPart 10 = .ok (.bipush 31, 2) := by decide +kernel
theorem dX9_readPart_12 : decode cX9_readPart 12 = .ok (.invokevirtual 260, 3) := by decide +kernel
theorem dX9_readPart_15 : decode cX9_readPart 15 = .ok (.iconst 1, 1) := by decide +kernel
theorem dX9_readPart_16 : decode cX9_readPart 16 = .ok (.ireturn, 1) := by decide +kernel
theorem dX9_readPart_17 : decode cX9_readPart 17 = .ok (.aload_n 0, 1) := by decide +kernel
theorem dX9_readPart_18 : decode cX9_readPart 18 = .ok (.invokevirtual 263, 3) := by decide +kernel
theorem dX9_readPart_21 : decode cX9_readPart 21 = .ok (.istore_n 1, 1) := by decide +kernel
theorem dX9_readPart_22 : decode cX9_readPart 22 = .ok (.aload_n 0, 1) := by decide +kernel
theorem dX9_readPart_23 : decode cX9_readPart 23 = .ok (.getfield 204, 3) := by decide +kernel
theorem dX9_readPart_26 : decode cX9_readPart 26 = .ok (.iconst 2, 1) := by decide +kernel
theorem dX9_readPart_27 : decode cX9_readPart 27 = .ok (.if_icmp .ne 18, 3) := by decide +kernel
theorem dX9_readPart_30 : decode cX9_readPart 30 = .ok (.aload_n 0, 1) := by decide +kernel
theorem dX9_readPart_31 : decode cX9_readPart 31 = .ok (.getfield 194, 3) := by decide +kernel
theorem dX9_readPart_34 : decode cX9_readPart 34 = .ok (.ldc2_w 267, 3) := by decide +kernel
theorem dX9_readPart_37 : decode cX9_readPart 37 = .ok (.lcmp, 1) := by decide +kernel
theorem dX9_readPart_38 : decode cX9_readPart 38 = .ok (.ifCond .gt 7, 3) := by decide +kernel
theorem dX9_readPart_41 : decode cX9_readPart 41 = .ok (.iconst 1, 1) := by decide +kernel
theorem dX9_readPart_42 : decode cX9_readPart 42 = .ok (.goto 4, 3) := by decide +kernel
theorem dX9_readPart_45 : decode cX9_readPart 45 = .ok (.iconst 0, 1) := by decide +kernel
theorem dX9_readPart_46 : decode cX9_readPart 46 = .ok (.istore_n 2, 1) := by decide +kernel
theorem dX9_readPart_47 : decode cX9_readPart 47 = .ok (.aload_n 0, 1) := by decide +kernel
theorem dX9_readPart_48 : decode cX9_readPart 48 = .ok (.iload_n 1, 1) := by decide +kernel
theorem dX9_readPart_49 : decode cX9_readPart 49 = .ok (.iconst (-1), 1) := by decide +kernel
theorem dX9_readPart_50 : decode cX9_readPart 50 = .ok (.if_icmp .ne 7, 3) := by decide +kernel
theorem dX9_readPart_53 : decode cX9_readPart 53 = .ok (.iload_n 2, 1) := by decide +kernel
theorem dX9_readPart_54 : decode cX9_readPart 54 = .ok (.ifCond .eq 7, 3) := by decide +kernel
theorem dX9_readPart_57 : decode cX9_readPart 57 = .ok (.iconst 1, 1) := by decide +kernel
theorem dX9_readPart_58 : decode cX9_readPart 58 = .ok (.goto 4, 3) := by decide +kernel
theorem dX9_readPart_61 : decode cX9_readPart 61 = .ok (.iconst 0, 1) := by decide +kernel
theorem dX9_readPart_62 : decode cX9_readPart 62 = .ok (.iload_n 1, 1) := by decide +kernel
theorem dX9_readPart_63 : decode cX9_readPart 63 = .ok (.iconst (-1), 1) := by decide +kernel
theorem dX9_readPart_64 : decode cX9_readPart 64 = .ok (.if_icmp .ne 7, 3) := by decide +kernel
theorem dX9_readPart_67 : decode cX9_readPart 67 = .ok (.iconst 0, 1) := by decide +kernel
theorem dX9_readPart_68 : decode cX9_readPart 68 = .ok (.goto 4, 3) := by decide +kernel
theorem dX9_readPart_71 : decode cX9_readPart 71 = .ok (.iload_n 1, 1) := by decide +kernel
theorem dX9_readPart_72 : decode cX9_readPart 72 = .ok (.iload_n 2, 1) := by decide +kernel
theorem dX9_readPart_73 : decode cX9_readPart 73 = .ok (.ifCond .eq 11, 3) := by decide +kernel
theorem dX9_readPart_76 : decode cX9_readPart 76 = .ok (.aload_n 0, 1) := by decide +kernel
theorem dX9_readPart_77 : decode cX9_readPart 77 = .ok (.getfield 194, 3) := by decide +kernel
theorem dX9_readPart_80 : decode cX9_readPart 80 = .ok (.l2i, 1) := by decide +kernel
theorem dX9_readPart_81 : decode cX9_readPart 81 = .ok (.goto 4, 3) := by decide +kernel
theorem dX9_readPart_84 : decode cX9_readPart 84 = .ok (.iconst 0, 1) := by decide +kernel
theorem dX9_readPart_85 : decode cX9_readPart 85 = .ok (.invokevirtual 269, 3) := by decide +kernel
theorem dX9_readPart_88 : decode cX9_readPart 88 = .ok (.iconst 3, 1) := by decide +kernel
theorem dX9_readPart_89 : decode cX9_readPart 89 = .ok (.ireturn, 1) := by decide +kernel
def bX9_readPart_0 (l : Launch) (E : Ev) (d : Nat) (Q : Option Value → Hp → Prop) : Kt := k_aload 0 (k_push (.int 91) (k_callV l E 9 55 YX9_isSign d 0 0 1 (k_if_eq (k_aload 0 (k_callV l E 9 55 YX9_partAt d 0 0 0 (k_istore 1 (k_aload 0 (k_getI 9 55 11 (k_push (.int 2) (k_icmp_ne (k_push (.int 0) (Go l E YX9_readPart (d + 1) 0 0 Q 0 0 46)) (k_aload 0 (k_getJ 9 55 12 (k_push (.long 1000) (k_lcmp (k_if_gt (k_push (.int 0) (Go l E YX9_readPart (d + 1) 0 0 Q 0 0 46)) (k_push (.int 1) (Go l E YX9_readPart (d + 1) 0 0 Q 0 0 46)))))))))))))) (k_aload 0 (k_push (.int 31) (k_callV l E 9 55 YX9_openBracket d 0 0 1 (k_push (.int 1) (k_iret .int Q))))))))
set_option maxRecDepth 100000 in
set_option maxHeartbeats 4000000 in
theorem gX9_readPart_0 {l : Launch} {E : Ev} {d : Nat} {Q : Option Value → Hp → Prop} {ls : Lv} {st : List Value} {h : Hp} (hB : bX9_readPart_0 l E d Q ls st h) : Go l E YX9_readPart (d + 1) 0 0 Q 0 0 0 ls st h :=
  (sd_aload_n (i := 0) rfl dX9_readPart_0 (sd_bipush (v := 91) (by decide) dX9_readPart_1 (sd_callV (Y' := YX9_isSign) (mc' := 0) (ms' := 0) (n := 1) clsX9.1 mw_1495 mw_1497 mw_60 mw_108 mw_1498 rfl (okmX9_isSign) (by decide) (Nat.le_refl _) (by decide) (by decide) dX9_readPart_3 (sd_if_eq (tgt := 17) (by decide) dX9_readPart_6 (sd_aload_n (i := 0) rfl dX9_readPart_17 (sd_callV (Y' := YX9_partAt) (mc' := 0) (ms' := 0) (n := 0) clsX9.1 mw_1507 mw_1509 mw_63 mw_108 mw_1510 rfl (okmX9_partAt) (by decide) (Nat.le_refl _) (by decide) (by decide) dX9_readPart_18 (sd_istore_n (i := 1) rfl (by decide) dX9_readPart_21 (sd_aload_n (i := 0) rfl dX9_readPart_22 (sd_getI clsX9 (f := 11) (by decide) (fun _ _ _ => rfl) mw_1189 dX9_readPart_23 (sd_iconst (v := 2) (by decide) dX9_readPart_26 (sd_icmp_ne (tgt := 45) (by decide) dX9_readPart_27 (sd_iconst (v := 0) (by decide) dX9_readPart_45 (Sd.go)) (sd_aload_n (i := 0) rfl dX9_readPart_30 (sd_getJ clsX9 (f := 12) (by decide) (fun _ _ _ => rfl) mw_1190 dX9_readPart_31 (sd_ldc2 (v := 1000) mw_1511 dX9_readPart_34 (sd_lcmp dX9_readPart_37 (sd_if_gt (tgt := 45) (by decide) dX9_readPart_38 (sd_iconst (v := 0) (by decide) dX9_readPart_45 (Sd.go)) (sd_iconst (v := 1) (by decide) dX9_readPart_41 (sd_goto (tgt := 46) (by decide) dX9_readPart_42 (Sd.go))))))))))))))) (sd_aload_n (i := 0) rfl dX9_readPart_9 (sd_bipush (v := 31) (by decide) dX9_readPart_10 (sd_callV (Y' := YX9_openBracket) (mc' := 0) (ms' := 0) (n := 1) clsX9.1 mw_1499 mw_1501 mw_61 mw_108 mw_1502 rfl (okmX9_openBracket) (by decide) (Nat.le_refl _) (by decide) (by decide) dX9_readPart_12 (sd_iconst (v := 1) (by decide) dX9_readPart_15 (sd_iret (ty := .int) rfl (by decide) (by decide) dX9_readPart_16)))))))) : Sd l E YX9_readPart (d + 1) 0 0 Q 0 0 0 (bX9_readPart_0 l E d Q)) ls st h hB
def bX9_readPart_46 (l : Launch) (E : Ev) (d : Nat) (Q : Option Value → Hp → Prop) : Kt := k_istore 2 (k_aload 0 (k_iload 1 (k_push (.int (-1)) (k_icmp_ne (k_push (.int 1) (Go l E YX9_readPart (d + 1) 0 0 Q 0 0 62)) (k_iload 2 (k_if_eq (k_push (.int 0) (Go l E YX9_readPart (d + 1) 0 0 Q 0 0 62)) (k_push (.int 1) (Go l E YX9_readPart (d + 1) 0 0 Q 0 0 62))))))))
set_option maxRecDepth 100000 in
set_option maxHeartbeats 4000000 in
theorem gX9_readPart_46 {l : Launch} {E : Ev} {d : Nat} {Q : Option Value → Hp → Prop} {ls : Lv} {st : List Value} {h : Hp} (hB : bX9_readPart_46 l E d Q ls st h) : Go l E YX9_readPart (d + 1) 0 0 Q 0 0 46 ls st h :=
  (sd_istore_n (i := 2) rfl (by decide) dX9_readPart_46 (sd_aload_n (i := 0) rfl dX9_readPart_47 (sd_iload_n (i := 1) rfl dX9_readPart_48 (sd_iconst (v := (-1)) (by decide) dX9_readPart_49 (sd_icmp_ne (tgt := 57) (by decide) dX9_readPart_50 (sd_iconst (v := 1) (by decide) dX9_readPart_57 (sd_goto (tgt := 62) (by decide) dX9_readPart_58 (Sd.go))) (sd_iload_n (i := 2) rfl dX9_readPart_53 (sd_if_eq (tgt := 61) (by decide) dX9_readPart_54 (sd_iconst (v := 0) (by decide) dX9_readPart_61 (Sd.go)) (sd_iconst (v := 1) (by decide) dX9_readPart_57 (sd_goto (tgt := 62) (by decide) dX9_readPart_58 (Sd.go))))))))) : Sd l E YX9_readPart (d + 1) 0 0 Q 0 0 46 (bX9_readPart_46 l E d Q)) ls st h hB
def bX9_readPart_62 (l : Launch) (E : Ev) (d : Nat) (Q : Option Value → Hp → Prop) : Kt := k_iload 1 (k_push (.int (-1)) (k_icmp_ne (k_iload 1 (Go l E YX9_readPart (d + 1) 0 0 Q 0 0 72)) (k_push (.int 0) (Go l E YX9_readPart (d + 1) 0 0 Q 0 0 72))))
set_option maxRecDepth 100000 in
set_option maxHeartbeats 4000000 in
theorem gX9_readPart_62 {l : Launch} {E : Ev} {d : Nat} {Q : Option Value → Hp → Prop} {ls : Lv} {st : List Value} {h : Hp} (hB : bX9_readPart_62 l E d Q ls st h) : Go l E YX9_readPart (d + 1) 0 0 Q 0 0 62 ls st h :=
  (sd_iload_n (i := 1) rfl dX9_readPart_62 (sd_iconst (v := (-1)) (by decide) dX9_readPart_63 (sd_icmp_ne (tgt := 71) (by decide) dX9_readPart_64 (sd_iload_n (i := 1) rfl dX9_readPart_71 (Sd.go)) (sd_iconst (v := 0) (by decide) dX9_readPart_67 (sd_goto (tgt := 72) (by decide) dX9_readPart_68 (Sd.go))))) : Sd l E YX9_readPart (d + 1) 0 0 Q 0 0 62 (bX9_readPart_62 l E d Q)) ls st h hB
def bX9_readPart_72 (l : Launch) (E : Ev) (d : Nat) (Q : Option Value → Hp → Prop) : Kt := k_iload 2 (k_if_eq (k_push (.int 0) (Go l E YX9_readPart (d + 1) 0 0 Q 0 0 85)) (k_aload 0 (k_getJ 9 55 12 (k_l2i (Go l E YX9_readPart (d + 1) 0 0 Q 0 0 85)))))
set_option maxRecDepth 100000 in
set_option maxHeartbeats 4000000 in
theorem gX9_readPart_72 {l : Launch} {E : Ev} {d : Nat} {Q : Option Value → Hp → Prop} {ls : Lv} {st : List Value} {h : Hp} (hB : bX9_readPart_72 l E d Q ls st h) : Go l E YX9_readPart (d + 1) 0 0 Q 0 0 72 ls st h :=
  (sd_iload_n (i := 2) rfl dX9_readPart_72 (sd_if_eq (tgt := 84) (by decide) dX9_readPart_73 (sd_iconst (v := 0) (by decide) dX9_readPart_84 (Sd.go)) (sd_aload_n (i := 0) rfl dX9_readPart_76 (sd_getJ clsX9 (f := 12) (by decide) (fun _ _ _ => rfl) mw_1190 dX9_readPart_77 (sd_l2i dX9_readPart_80 (sd_goto (tgt := 85) (by decide) dX9_readPart_81 (Sd.go)))))) : Sd l E YX9_readPart (d + 1) 0 0 Q 0 0 72 (bX9_readPart_72 l E d Q)) ls st h hB
def bX9_readPart_85 (l : Launch) (E : Ev) (d : Nat) (Q : Option Value → Hp → Prop) : Kt := k_callV l E 9 55 YX9_leaf d 0 0 3 (k_push (.int 3) (k_iret .int Q))
set_option maxRecDepth 100000 in
set_option maxHeartbeats 4000000 in
theorem gX9_readPart_85 {l : Launch} {E : Ev} {d : Nat} {Q : Option Value → Hp → Prop} {ls : Lv} {st : List Value} {h : Hp} (hB : bX9_readPart_85 l E d Q ls st h) : Go l E YX9_readPart (d + 1) 0 0 Q 0 0 85 ls st h :=
  (sd_callV (Y' := YX9_leaf) (mc' := 0) (ms' := 0) (n := 3) clsX9.1 mw_1512 mw_1514 mw_64 mw_108 mw_1515 rfl (okmX9_leaf) (by decide) (Nat.le_refl _) (by decide) (by decide) dX9_readPart_85 (sd_iconst (v := 3) (by decide) dX9_readPart_88 (sd_iret (ty := .int) rfl (by decide) (by decide) dX9_readPart_89)) : Sd l E YX9_readPart (d + 1) 0 0 Q 0 0 85 (bX9_readPart_85 l E d Q)) ls st h hB
theorem eX9_readPart {l : Launch} {E : Ev} {d : Nat} {Q : Option Value → Hp → Prop} {h : Hp} {a0 : Nat} (hk : Go l E YX9_readPart d 0 0 Q 0 0 0 [some (.ref a0), none, none] [] h) : GoM l E YX9_readPart d 0 0 [.ref a0] h Q := GoM.of (by decide +kernel) rfl (by simp [entA, YX9_readPart]) hk
theorem dX9_readPlain_0 : decode cX9_readPlain 0 = .ok (.aload_n 0, 1) := by decide +kernel
theorem dX9_readPlain_1 : decode cX9_readPlain 1 = .ok (.ldc2_w 273, 3) := by decide +kernel
theorem dX9_readPlain_4 : decode cX9_readPlain 4 = .ok (.invokevirtual 244, 3) := by decide +kernel
theorem dX9_readPlain_7 : decode cX9_readPlain 7 = .ok (.ifCond .eq 16, 3) := by decide +kernel
theorem dX9_readPlain_10 : decode cX9_readPlain 10 = .ok (.aload_n 0, 1) := by decide +kernel
theorem dX9_readPlain_11 : decode cX9_readPlain 11 = .ok (.bipush 27, 2) := by decide +kernel
theorem dX9_readPlain_13 : decode cX9_readPlain 13 = .ok (.iconst 0, 1) := by decide +kernel
theorem dX9_readPlain_14 : decode cX9_readPlain 14 = .ok (.invokevirtual 251, 3) := by decide +kernel
theorem dX9_readPlain_17 : decode cX9_readPlain 17 = .ok (.aload_n 0, 1) := by decide +kernel
theorem dX9_readPlain_18 : decode cX9_readPlain 18 = .ok (.invokevirtual 188, 3) := by decide +kernel
theorem dX9_readPlain_21 : decode cX9_readPlain 21 = .ok (.iconst 0, 1) := by decide +kernel
theorem dX9_readPlain_22 : decode cX9_readPlain 22 = .ok (.ireturn, 1) := by decide +kernel
theorem dX9_readPlain_23 : decode cX9_readPlain 23 = .ok (.aload_n 0, 1) := by decide +kernel
theorem dX9_readPlain_24 : decode cX9_readPlain 24 = .ok (.bipush 40, 2) := by decide +kernel
theorem dX9_readPlain_26 : decode cX9_readPlain 26 = .ok (.invokevirtual 257, 3) := by decide +kernel
theorem dX9_readPlain_29 : decode cX9_readPlain 29 = .ok (.ifCond .eq 11, 3) := by decide +kernel
theorem dX9_readPlain_32 : decode cX9_readPlain 32 = .ok (.aload_n 0, 1) := by decide +kernel
theorem dX9_readPlain_33 : decode cX9_readPlain 33 = .ok (.bipush 30, 2) := by decide +kernel
theorem dX9_readPlain_35 : decode cX9_readPlain 35 = .ok (.invokevirtual 260, 3) := by decide +kernel
theorem dX9_readPlain_38 : decode cX9_readPlain 38 = .ok (.iconst 0, 1) := by decide +kernel
theorem dX9_readPlain_39 : decode cX9_readPlain 39 = .ok (.ireturn, 1) := by decide +kernel
theorem dX9_readPlain_40 : decode cX9_readPlain 40 = .ok (.aload_n 0, 1) := by decide +kernel
theorem dX9_readPlain_41 : decode cX9_readPlain 41 = .ok (.invokevirtual 275, 3) := by decide +kernel
theorem dX9_readPlain_44 : decode cX9_readPlain 44 = .ok (.ireturn, 1) := by decide +kernel
def bX9_readPlain_0 (l : Launch) (E : Ev) (d : Nat) (Q : Option Value → Hp → Prop) : Kt := k_aload 0 (k_push (.long 14836) (k_callV l E 9 55 YX9_isWord d 0 0 1 (k_if_eq (k_aload 0 (k_push (.int 40) (k_callV l E 9 55 YX9_isSign d 0 0 1 (k_if_eq (k_aload 0 (k_callV l E 9 55 YX9_readPart d 0 0 0 (k_iret .int Q))) (k_aload 0 (k_push (.int 30) (k_callV l E 9 55 YX9_openBracket d 0 0 1 (k_push (.int 0) (k_iret .int Q))))))))) (k_aload 0 (k_push (.int 27) (k_push (.int 0) (k_callV l E 9 55 YX9_push d 0 0 2 (k_aload 0 (k_callV l E 9 55 YX9_next d 0 0 0 (k_push (.int 0) (k_iret .int Q)))))))))))
set_option maxRecDepth 100000 in
set_option maxHeartbeats 4000000 in
theorem gX9_readPlain_0 {l : Launch} {E : Ev} {d : Nat} {Q : Option Value → Hp → Prop} {ls : Lv} {st : List Value} {h : Hp} (hB : bX9_readPlain_0 l E d Q ls st h) : Go l E YX9_readPlain (d + 1) 0 0 Q 0 0 0 ls st h :=
  (sd_aload_n (i := 0) rfl dX9_readPlain_0 (sd_ldc2 (v := 14836) mw_1490 dX9_readPlain_1 (sd_callV (Y' := YX9_isWord) (mc' := 0) (ms' := 0) (n := 1) clsX9.1 mw_1474 mw_1476 mw_55 mw_108 mw_1477 rfl (okmX9_isWord) (by decide) (Nat.le_refl _) (by decide) (by decide) dX9_readPlain_4 (sd_if_eq (tgt := 23) (by decide) dX9_readPlain_7 (sd_aload_n (i := 0) rfl dX9_readPlain_23 (sd_bipush (v := 40) (by decide) dX9_readPlain_24 (sd_callV (Y' := YX9_isSign) (mc' := 0) (ms' := 0) (n := 1) clsX9.1 mw_1495 mw_1497 mw_60 mw_108 mw_1498 rfl (okmX9_isSign) (by decide) (Nat.le_refl _) (by decide) (by decide) dX9_readPlain_26 (sd_if_eq (tgt := 40) (by decide) dX9_readPlain_29 (sd_aload_n (i := 0) rfl dX9_readPlain_40 (sd_callV (Y' := YX9_readPart) (mc' := 0) (ms' := 0) (n := 0) clsX9.1 mw_1503 mw_1505 mw_62 mw_108 mw_1506 rfl (okmX9_readPart) (by decide) (Nat.le_refl _) (by decide) (by decide) dX9_readPlain_41 (sd_iret (ty := .int) rfl (by decide) (by decide) dX9_readPlain_44))) (sd_aload_n (i := 0) rfl dX9_readPlain_32 (sd_bipush (v := 30) (by decide) dX9_readPlain_33 (sd_callV (Y' := YX9_openBracket) (mc' := 0) (ms' := 0) (n := 1) clsX9.1 mw_1499 mw_1501 mw_61 mw_108 mw_1502 rfl (okmX9_openBracket) (by decide) (Nat.le_refl _) (by decide) (by decide) dX9_readPlain_35 (sd_iconst (v := 0) (by decide) dX9_readPlain_38 (sd_iret (ty := .int) rfl (by decide) (by decide) dX9_readPlain_39))))))))) (sd_aload_n (i := 0) rfl dX9_readPlain_10 (sd_bipush (v := 27) (by decide) dX9_readPlain_11 (sd_iconst (v := 0) (by decide) dX9_readPlain_13 (sd_callV (Y' := YX9_push) (mc' := 0) (ms' := 0) (n := 2) clsX9.1 mw_1491 mw_1493 mw_59 mw_108 mw_1494 rfl (okmX9_push) (by decide) (Nat.le_refl _) (by decide) (by decide) dX9_readPlain_14 (sd_aload_n (i := 0) rfl dX9_readPlain_17 (sd_callV (Y' := YX9_next) (mc' := 0) (ms' := 0) (n := 0) clsX9.1 mw_1454 mw_1456 mw_53 mw_108 mw_1457 rfl (okmX9_next) (by decide) (Nat.le_refl _) (by decide) (by decide) dX9_readPlain_18 (sd_iconst (v := 0) (by decide) dX9_readPlain_21 (sd_iret (ty := .int) rfl (by decide) (by decide) dX9_readPlain_22))))))))))) : Sd l E YX9_readPlain (d + 1) 0 0 Q 0 0 0 (bX9_readPlain_0 l E d Q)) ls st h hB
theorem eX9_readPlain {l : Launch} {E : Ev} {d : Nat} {Q : Option Value → Hp → Prop} {h : Hp} {a0 : Nat} (hk : Go l E YX9_readPlain d 0 0 Q 0 0 0 [some (.ref a0)] [] h) : GoM l E YX9_readPlain d 0 0 [.ref a0] h Q := GoM.of (by decide +kernel) rfl (by simp [entA, YX9_readPlain]) hk
theorem dX9_behindSum_0 : decode cX9_behindSum 0 = .ok (.aload_n 0, 1) := by decide +kernel
theorem dX9_behindSum_1 : decode cX9_behindSum 1 = .ok (.bipush 43, 2) := by decide +kernel
theorem dX9_behindSum_3 : decode cX9_behindSum 3 = .ok (.invokevirtual 257, 3) := by decide +kernel
theorem dX9_behindSum_6 : decode cX9_behindSum 6 = .ok (.ifCond .eq 8, 3) := by decide +kernel
theorem dX9_behindSum_9 : decode cX9_behindSum 9 = .ok (.bipush 20, 2) := by decide +kernel
theorem dX9_behindSum_11 : decode cX9_behindSum 11 = .ok (.goto 46, 3) := by decide +kernel
theorem dX9_behindSum_14 : decode cX9_behindSum 14 = .ok (.aload_n 0, 1) := by decide +kernel
theorem dX9_behindSum_15 : decode cX9_behindSum 15 = .ok (.bipush 45, 2) := by decide +kernel
theorem dX9_behindSum_17 : decode cX9_behindSum 17 = .ok (.invokevirtual 257, 3) := by decide +kernel
theorem dX9_behindSum_20 : decode cX9_behindSum 20 = .ok (.ifCond .eq 8, 3) := by decide +kernel
theorem dX9_behindSum_23 : decode cX9_behindSum 23 = .ok (.bipush 21, 2) := by decide +kernel
theorem dX9_behindSum_25 : decode cX9_behindSum 25 = .ok (.goto 32, 3) := by decide +kernel
theorem dX9_behindSum_28 : decode cX9_behindSum 28 = .ok (.aload_n 0, 1) := by decide +kernel
theorem dX9_behindSum_29 : decode cX9_behindSum 29 = .ok (.bipush 42, 2) := by decide +kernel
theorem dX9_behindSum_31 : decode cX9_behindSum 31 = .ok (.invokevirtual 257, 3) := by decide +kernel
theorem dX9_behindSum_34 : decode cX9_behindSum 34 = .ok (.ifCond .eq 8, 3) := by decide +kernel
theorem dX9_behindSum_37 : decode cX9_behindSum 37 = .ok (.bipush 22, 2) := by decide +kernel
theorem dX9_behindSum_39 : decode cX9_behindSum 39 = .ok (.goto 18, 3) := by decide +kernel
theorem dX9_behindSum_42 : decode cX9_behindSum 42 = .ok (.aload_n 0, 1) := by decide +kernel
theorem dX9_behindSum_43 : decode cX9_behindSum 43 = .ok (.bipush 47, 2) := by decide +kernel
theorem dX9_behindSum_45 : decode cX9_behindSum 45 = .ok (.invokevirtual 257, 3) := by decide +kernel
theorem dX9_behindSum_48 : decode cX9_behindSum 48 = .ok (.ifCond .eq 8, 3) := by decide +kernel
theorem dX9_behindSum_51 : decode cX9_behindSum 51 = .ok (.bipush 23, 2) := by decide +kernel
theorem dX9_behindSum_53 : decode cX9_behindSum 53 = .ok (.goto 4, 3) := by decide +kernel
theorem dX9_behindSum_56 : decode cX9_behindSum 56 = .ok (.iconst (-1), 1) := by decide +kernel
theorem dX9_behindSum_57 : decode cX9_behindSum 57 = .ok (.istore_n 2, 1) := by decide +kernel
theorem dX9_behindSum_58 : decode cX9_behindSum 58 = .ok (.iload_n 2, 1) := by decide +kernel
theorem dX9_behindSum_59 : decode cX9_behindSum 59 = .ok (.iconst (-1), 1) := by decide +kernel
theorem dX9_behindSum_60 : decode cX9_behindSum 60 = .ok (.if_icmp .eq 23, 3) := by decide +kernel
theorem dX9_behindSum_63 : decode cX9_behindSum 63 = .ok (.aload_n 0, 1) := by decide +kernel
theorem dX9_behindSum_64 : decode cX9_behindSum 64 = .ok (.iload_n 2, 1) := by decide +kernel
theorem dX9_behindSum_65 : decode cX9_behindSum 65 = .ok (.invokestatic 229, 3) := by decide +kernel
theorem dX9_behindSum_68 : decode cX9_behindSum 68 = .ok (.invokevirtual 278, 3) := by decide +kernel
theorem dX9_behindSum_71 : decode cX9_behindSum 71 = .ok (.aload_n 0, 1) := by decide +kernel
theorem dX9_behindSum_72 : decode cX9_behindSum 72 = .ok (.iload_n 2, 1) := by decide +kernel
theorem dX9_behindSum_73 : decode cX9_behindSum 73 = .ok (.iconst 0, 1) := by decide +kernel
theorem dX9_behindSum_74 : decode cX9_behindSum 74 = .ok (.invokevirtual 251, 3) := by decide +kernel
theorem dX9_behindSum_77 : decode cX9_behindSum 77 = .ok (.aload_n 0, 1) := by decide +kernel
theorem dX9_behindSum_78 : decode cX9_behindSum 78 = .ok (.invokevirtual 188, 3) := by decide +kernel
theorem dX9_behindSum_81 : decode cX9_behindSum 81 = .ok (.iconst 1, 1) := by decide +kernel
theorem dX9_behindSum_82 : decode cX9_behindSum 82 = .ok (.ireturn, 1) := by decide +kernel
theorem dX9_behindSum_83 : decode cX9_behindSum 83 = .ok (.aload_n 0, 1) := by decide +kernel
theorem dX9_behindSum_84 : decode cX9_behindSum 84 = .ok (.invokevirtual 281, 3) := by decide +kernel
theorem dX9_behindSum_87 : decode cX9_behindSum 87 = .ok (.istore_n 3, 1) := by decide +kernel
theorem dX9_behindSum_88 : decode cX9_behindSum 88 = .ok (.iload_n 3, 1) := by decide +kernel
theorem dX9_behindSum_89 : decode cX9_behindSum 89 = .ok (.bipush 31, 2) := by decide +kernel
theorem dX9_behindSum_91 : decode cX9_behindSum 91 = .ok (.if_icmp .ne 47, 3) := by decide +kernel
theorem dX9_behindSum_94 : decode cX9_behindSum 94 = .ok (.aload_n 0, 1) := by decide +kernel
theorem dX9_behindSum_95 : decode cX9_behindSum 95 = .ok (.aload_n 0, 1) := by decide +kernel
theorem dX9_behindSum_96 : decode cX9_behindSum 96 = .ok (.bipush 93, 2) := by decide +kernel
theorem dX9_behindSum_98 : decode cX9_behindSum 98 = .ok (.invokevirtual 257, 3) := by decide +kernel
theorem dX9_behindSum_101 : decode cX9_behindSum 101 = .ok (.invokevirtual 219, 3) := by decide +kernel
theorem dX9_behindSum_104 : decode cX9_behindSum 104 = .ok (.aload_n 0, 1) := by decide +kernel
theorem dX9_behindSum_105 : decode cX9_behindSum 105 = .ok (.getfield 184, 3) := by decide +kernel
theorem dX9_behindSum_108 : decode cX9_behindSum 108 = .ok (.ifCond .ne 28, 3) := by decide +kernel
theorem dX9_behindSum_111 : decode cX9_behindSum 111 = .ok (.aload_n 0, 1) := by decide +kernel
theorem dX9_behindSum_112 : decode cX9_behindSum 112 = .ok (.iconst 5, 1) := by decide +kernel
theorem dX9_behindSum_113 : decode cX9_behindSum 113 = .ok (.invokevirtual 278, 3) := by decide +kernel
theorem dX9_behindSum_116 : decode cX9_behindSum 116 = .ok (.aload_n 0, 1) := by decide +kernel
theorem dX9_behindSum_117 : decode cX9_behindSum 117 = .ok (.dup, 1) := by decide +kernel
theorem dX9_behindSum_118 : decode cX9_behindSum 118 = .ok (.getfield 226, 3) := by decide +kernel
theorem dX9_behindSum_121 : decode cX9_behindSum 121 = .ok (.iconst 1, 1) := by decide +kernel
theorem dX9_behindSum_122 : decode cX9_behindSum 122 = .ok (.isub, 1) := by decide +kernel
theorem dX9_behindSum_123 : decode cX9_behindSum 123 = .ok (.putfield 226, 3) := by decide +kernel
theorem dX9_behindSum_126 : decode cX9_behindSum 126 = .ok (.aload_n 0, 1) := by decide +kernel
theorem dX9_behindSum_127 : decode cX9_behindSum 127 = .ok (.dup, 1) := by decide +kernel
theorem dX9_behindSum_128 : decode cX9_behindSum 128 = .ok (.getfield 248, 3) := by decide +kernel
theorem dX9_behindSum_131 : decode cX9_behindSum 131 = .ok (.iconst 1, 1) := by decide +kernel
theorem dX9_behindSum_132 : decode cX9_behindSum 132 = .ok (.isub, 1) := by decide +kernel
theorem dX9_behindSum_133 : decode cX9_behindSum 133 = .ok (.putfield 248, 3) := by decide +kernel
theorem dX9_behindSum_136 : decode cX9_behindSum 136 = .ok (.iconst 3, 1) := by decide +kernel
theorem dX9_behindSum_137 : decode cX9_behindSum 137 = .ok (.ireturn, 1) := by decide +kernel
theorem dX9_behindSum_138 : decode cX9_behindSum 138 = .ok (.iload_n 3, 1) := by decide +kernel
theorem dX9_behindSum_139 : decode cX9_behindSum 139 = .ok (.iconst (-1), 1) := by decide +kernel
theorem dX9_behindSum_140 : decode cX9_behindSum 140 = .ok (.if_icmp .ne 9, 3) := by decide +kernel
theorem dX9_behindSum_143 : decode cX9_behindSum 143 = .ok (.iload_n 1, 1) := by decide +kernel
theorem dX9_behindSum_144 : decode cX9_behindSum 144 = .ok (.ifCond .ne 5, 3) := by decide +kernel
theorem dX9_behindSum_147 : decode cX9_behindSum 147 = .ok (.iconst 4, 1) := by decide +kernel
theorem dX9_behindSum_148 : decode cX9_behindSum 148 = .ok (.ireturn, 1) := by decide +kernel
theorem dX9_behindSum_149 : decode cX9_behindSum 149 = .ok (.aload_n 0, 1) := by decide +kernel
theorem dX9_behindSum_150 : decode cX9_behindSum 150 = .ok (.invokevirtual 284, 3) := by decide +kernel
theorem dX9_behindSum_153 : decode cX9_behindSum 153 = .ok (.ifCond .eq 5, 3) := by decide +kernel
theorem dX9_behindSum_156 : decode cX9_behindSum 156 = .ok (.iconst 2, 1) := by decide +kernel
theorem dX9_behindSum_157 : decode cX9_behindSum 157 = .ok (.ireturn, 1) := by decide +kernel
theorem dX9_behindSum_158 : decode cX9_behindSum 158 = .ok (.aload_n 0, 1) := by decide +kernel
theorem dX9_behindSum_159 : decode cX9_behindSum 159 = .ok (.bipush 60, 2) := by decide +kernel
theorem dX9_behindSum_161 : decode cX9_behindSum 161 = .ok (.invokevirtual 257, 3) := by decide +kernel
theorem dX9_behindSum_164 : decode cX9_behindSum 164 = .ok (.ifCond .eq 8, 3) := by decide +kernel
theorem dX9_behindSum_167 : decode cX9_behindSum 167 = .ok (.bipush 24, 2) := by decide +kernel
theorem dX9_behindSum_169 : decode cX9_behindSum 169 = .ok (.goto 19, 3) := by decide +kernel
theorem dX9_behindSum_172 : decode cX9_behindSum 172 = .ok (.aload_n 0, 1) := by decide +kernel
theorem dX9_behindSum_173 : decode cX9_behindSum 173 = .ok (.bipush 62, 2) := by decide +kernel
theorem dX9_behindSum_175 : decode cX9_behindSum 175 = .ok (.invokevirtual 257, 3) := by decide +kernel
theorem dX9_behindSum_178 : decode cX9_behindSum 178 = .ok (.ifCond .eq 8, 3) := by decide +kernel
theorem dX9_behindSum_181 : decode cX9_behindSum 181 = .ok (.bipush 25, 2) := by decide +kernel
theorem dX9_behindSum_183 : decode cX9_behindSum 183 = .ok (.goto 5, 3) := by decide +kernel
theorem dX9_behindSum_186 : decode cX9_behindSum 186 = .ok (.bipush 26, 2) := by decide +kernel
theorem dX9_behindSum_188 : decode cX9_behindSum 188 = .ok (.istore_n 2, 1) := by decide +kernel
theorem dX9_behindSum_189 : decode cX9_behindSum 189 = .ok (.aload_n 0, 1) := by decide +kernel
theorem dX9_behindSum_190 : decode cX9_behindSum 190 = .ok (.iload_n 2, 1) := by decide +kernel
theorem dX9_behindSum_191 : decode cX9_behindSum 191 = .ok (.bipush 26, 2) := by decide +kernel
theorem dX9_behindSum_193 : decode cX9_behindSum 193 = .ok (.if_icmp .ne 12, 3) := by decide +kernel
theorem dX9_behindSum_196 : decode cX9_behindSum 196 = .ok (.aload_n 0, 1) := by decide +kernel
theorem dX9_behindSum_197 : decode cX9_behindSum 197 = .ok (.bipush 61, 2) := by decide +kernel
theorem dX9_behindSum_199 : decode cX9_behindSum 199 = .ok (.invokevirtual 257, 3) := by decide +kernel
theorem dX9_behindSum_202 : decode cX9_behindSum 202 = .ok (.ifCond .eq 7, 3) := by decide +kernel
theorem dX9_behindSum_205 : decode cX9_behindSum 205 = .ok (.iconst 1, 1) := by decide +kernel
theorem dX9_behindSum_206 : decode cX9_behindSum 206 = .ok (.goto 4, 3) := by decide +kernel
theorem dX9_behindSum_209 : decode cX9_behindSum 209 = .ok (.iconst 0, 1) := by decide +kernel
theorem dX9_behindSum_210 : decode cX9_behindSum 210 = .ok (.invokevirtual 219, 3) := by decide +kernel
theorem dX9_behindSum_213 : decode cX9_behindSum 213 = .ok (.aload_n 0, 1) := by decide +kernel
theorem dX9_behindSum_214 : decode cX9_behindSum 214 = .ok (.getfield 184, 3) := by decide +kernel
theorem dX9_behindSum_217 : decode cX9_behindSum 217 = .ok (.ifCond .ne 14, 3) := by decide +kernel
theorem dX9_behindSum_220 : decode cX9_behindSum 220 = .ok (.aload_n 0, 1) := by decide +kernel
theorem dX9_behindSum_221 : decode cX9_behindSum 221 = .ok (.iconst 5, 1) := by decide +kernel
theorem dX9_behindSum_222 : decode cX9_behindSum 222 = .ok (.invokevirtual 278, 3) := by decide +kernel
theorem dX9_behindSum_225 : decode cX9_behindSum 225 = .ok (.aload_n 0, 1) := by decide +kernel
theorem dX9_behindSum_226 : decode cX9_behindSum 226 = .ok (.iload_n 2, 1) := by decide +kernel
theorem dX9_behindSum_227 : decode cX9_behindSum 227 = .ok (.iconst 0, 1) := by decide +kernel
theorem dX9_behindSum_228 : decode cX9_behindSum 228 = .ok (.invokevirtual 251, 3) := by decide +kernel
theorem dX9_behindSum_231 : decode cX9_behindSum 231 = .ok (.iconst 1, 1) := by decide +kernel
theorem dX9_behindSum_232 : decode cX9_behindSum 232 = .ok (.ireturn, 1) := by decide +kernel
def bX9_behindSum_0 (l : Launch) (E : Ev) (d : Nat) (Q : Option Value → Hp → Prop) : Kt := k_aload 0 (k_push (.int 43) (k_callV l E 9 55 YX9_isSign d 0 0 1 (k_if_eq (k_aload 0 (k_push (.int 45) (k_callV l E 9 55 YX9_isSign d 0 0 1 (k_if_eq (k_aload 0 (k_push (.int 42) (k_callV l E 9 55 YX9_isSign d 0 0 1 (k_if_eq (k_aload 0 (k_push (.int 47) (k_callV l E 9 55 YX9_isSign d 0 0 1 (k_if_eq (k_push (.int (-1)) (Go l E YX9_behindSum (d + 1) 0 0 Q 0 0 57)) (k_push (.int 23) (Go l E YX9_behindSum (d + 1) 0 0 Q 0 0 57)))))) (k_push (.int 22) (Go l E YX9_behindSum (d + 1) 0 0 Q 0 0 57)))))) (k_push (.int 21) (Go l E YX9_behindSum (d + 1) 0 0 Q 0 0 57)))))) (k_push (.int 20) (Go l E YX9_behindSum (d + 1) 0 0 Q 0 0 57)))))
set_option maxRecDepth 100000 in
set_option maxHeartbeats 4000000 in
theorem gX9_behindSum_0 {l : Launch} {E : Ev} {d : Nat} {Q : Option Value → Hp → Prop} {ls : Lv} {st : List Value} {h : Hp} (hB : bX9_behindSum_0 l E d Q ls st h) : Go l E YX9_behindSum (d + 1) 0 0 Q 0 0 0 ls st h :=
  (sd_aload_n (i := 0) rfl dX9_behindSum_0 (sd_bipush (v := 43) (by decide) dX9_behindSum_1 (sd_callV (Y' := YX9_isSign) (mc' := 0) (ms' := 0) (n := 1) clsX9.1 mw_1495 mw_1497 mw_60 mw_108 mw_1498 rfl (okmX9_isSign) (by decide) (Nat.le_refl _) (by decide) (by decide) dX9_behindSum_3 (sd_if_eq (tgt := 14) (by decide) dX9_behindSum_6 (sd_aload_n (i := 0) rfl dX9_behindSum_14 (sd_bipush (v := 45) (by decide) dX9_behindSum_15 (sd_callV (Y' := YX9_isSign) (mc' := 0) (ms' := 0) (n := 1) clsX9.1 mw_1495 mw_1497 mw_60 mw_108 mw_1498 rfl (okmX9_isSign) (by decide) (Nat.le_refl _) (by decide) (by decide) dX9_behindSum_17 (sd_if_eq (tgt := 28) (by decide) dX9_behindSum_20 (sd_aload_n (i := 0) rfl dX9_behindSum_28 (sd_bipush (v := 42) (by decide) dX9_behindSum_29 (sd_callV (Y' := YX9_isSign) (mc' := 0) (ms' := 0) (n := 1) clsX9.1 mw_1495 mw_1497 mw_60 mw_108 mw_1498 rfl (okmX9_isSign) (by decide) (Nat.le_refl _) (by decide) (by decide) dX9_behindSum_31 (sd_if_eq (tgt := 42) (by decide) dX9_behindSum_34 (sd_aload_n (i := 0) rfl dX9_behindSum_42 (sd_bipush (v := 47) (by decide) dX9_behindSum_43 (sd_callV (Y' := YX9_isSign) (mc' := 0) (ms' := 0) (n := 1) clsX9.1 mw_1495 mw_1497 mw_60 mw_108 mw_1498 rfl (okmX9_isSign) (by decide) (Nat.le_refl _) (by decide) (by decide) dX9_behindSum_45 (sd_if_eq (tgt := 56) (by decide) dX9_behindSum_48 (sd_iconst (v := (-1)) (by decide) dX9_behindSum_56 (Sd.go)) (sd_bipush (v := 23) (by decide) dX9_behindSum_51 (sd_goto (tgt := 57) (by decide) dX9_behindSum_53 (Sd.go))))))) (sd_bipush (v := 22) (by decide) dX9_behindSum_37 (sd_goto (tgt := 57) (by decide) dX9_behindSum_39 (Sd.go))))))) (sd_bipush (v := 21) (by decide) dX9_behindSum_23 (sd_goto (tgt := 57) (by decide) dX9_behindSum_25 (Sd.go))))))) (sd_bipush (v := 20) (by decide) dX9_behindSum_9 (sd_goto (tgt := 57) (by decide) dX9_behindSum_11 (Sd.go)))))) : Sd l E YX9_behindSum (d + 1) 0 0 Q 0 0 0 (bX9_behindSum_0 l E d Q)) ls st h hB
def bX9_behindSum_57 (l : Launch) (E : Ev) (d : Nat) (Q : Option Value → Hp → Prop) : Kt := k_istore 2 (k_iload 2 (k_push (.int (-1)) (k_icmp_eq (k_aload 0 (k_callV l E 9 55 YX9_inner d 0 0 0 (k_istore 3 (k_iload 3 (k_push (.int 31) (k_icmp_ne (k_iload 3 (k_push (.int (-1)) (k_icmp_ne (Go l E YX9_behindSum (d + 1) 0 0 Q 0 0 149) (k_iload 1 (k_if_ne (Go l E YX9_behindSum (d + 1) 0 0 Q 0 0 149) (k_push (.int 4) (k_iret .int Q))))))) (k_aload 0 (k_aload 0 (k_push (.int 93) (k_callV l E 9 55 YX9_isSign d 0 0 1 (k_callV l E 9 55 YX9_must d 0 0 1 (k_aload 0 (k_getI 9 55 14 (k_if_ne (k_push (.int 3) (k_iret .int Q)) (k_aload 0 (k_push (.int 5) (k_callV l E 9 55 YX9_settle d 0 0 1 (k_aload 0 (k_dup (k_getI 9 55 23 (k_push (.int 1) (k_isub (k_putI 9 55 23 (k_aload 0 (k_dup (k_getI 9 55 24 (k_push (.int 1) (k_isub (k_putI 9 55 24 (k_push (.int 3) (k_iret .int Q))))))))))))))))))))))))))))))) (k_aload 0 (k_iload 2 (k_callS l E YX9_binds d 0 0 1 (k_callV l E 9 55 YX9_settle d 0 0 1 (k_aload 0 (k_iload 2 (k_push (.int 0) (k_callV l E 9 55 YX9_push d 0 0 2 (k_aload 0 (k_callV l E 9 55 YX9_next d 0 0 0 (k_push (.int 1) (k_iret .int Q)))))))))))))))
set_option maxRecDepth 100000 in
set_option maxHeartbeats 4000000 in
theorem gX9_behindSum_57 {l : Launch} {E : Ev} {d : Nat} {Q : Option Value → Hp → Prop} {ls : Lv} {st : List Value} {h : Hp} (hB : bX9_behindSum_57 l E d Q ls st h) : Go l E YX9_behindSum (d + 1) 0 0 Q 0 0 57 ls st h :=
  (sd_istore_n (i := 2) rfl (by decide) dX9_behindSum_57 (sd_iload_n (i := 2) rfl dX9_behindSum_58 (sd_iconst (v := (-1)) (by decide) dX9_behindSum_59 (sd_icmp_eq (tgt := 83) (by decide) dX9_behindSum_60 (sd_aload_n (i := 0) rfl dX9_behindSum_83 (sd_callV (Y' := YX9_inner) (mc' := 0) (ms' := 0) (n := 0) clsX9.1 mw_1531 mw_1533 mw_68 mw_108 mw_1534 rfl (okmX9_inner) (by decide) (Nat.le_refl _) (by decide) (by decide) dX9_behindSum_84 (sd_istore_n (i := 3) rfl (by decide) dX9_behindSum_87 (sd_iload_n (i := 3) rfl dX9_behindSum_88 (sd_bipush (v := 31) (by decide) dX9_behindSum_89 (sd_icmp_ne (tgt := 138) (by decide) dX9_behindSum_91 (sd_iload_n (i := 3) rfl dX9_behindSum_138 (sd_iconst (v := (-1)) (by decide) dX9_behindSum_139 (sd_icmp_ne (tgt := 149) (by decide) dX9_behindSum_140 (Sd.go) (sd_iload_n (i := 1) rfl dX9_behindSum_143 (sd_if_ne (tgt := 149) (by decide) dX9_behindSum_144 (Sd.go) (sd_iconst (v := 4) (by decide) dX9_behindSum_147 (sd_iret (ty := .int) rfl (by decide) (by decide) dX9_behindSum_148))))))) (sd_aload_n (i := 0) rfl dX9_behindSum_94 (sd_aload_n (i := 0) rfl dX9_behindSum_95 (sd_bipush (v := 93) (by decide) dX9_behindSum_96 (sd_callV (Y' := YX9_isSign) (mc' := 0) (ms' := 0) (n := 1) clsX9.1 mw_1495 mw_1497 mw_60 mw_108 mw_1498 rfl (okmX9_isSign) (by decide) (Nat.le_refl _) (by decide) (by decide) dX9_behindSum_98 (sd_callV (Y' := YX9_must) (mc' := 0) (ms' := 0) (n := 1) clsX9.1 mw_1478 mw_1480 mw_56 mw_108 mw_1481 rfl (okmX9_must) (by decide) (Nat.le_refl _) (by decide) (by decide) dX9_behindSum_101 (sd_aload_n (i := 0) rfl dX9_behindSum_104 (sd_getI clsX9 (f := 14) (by decide) (fun _ _ _ => rfl) mw_1192 dX9_behindSum_105 (sd_if_ne (tgt := 136) (by decide) dX9_behindSum_108 (sd_iconst (v := 3) (by decide) dX9_behindSum_136 (sd_iret (ty := .int) rfl (by decide) (by decide) dX9_behindSum_137)) (sd_aload_n (i := 0) rfl dX9_behindSum_111 (sd_iconst (v := 5) (by decide) dX9_behindSum_112 (sd_callV (Y' := YX9_settle) (mc' := 0) (ms' := 0) (n := 1) clsX9.1 mw_1527 mw_1529 mw_67 mw_108 mw_1530 rfl (okmX9_settle) (by decide) (Nat.le_refl _) (by decide) (by decide) dX9_behindSum_113 (sd_aload_n (i := 0) rfl dX9_behindSum_116 (sd_dup dX9_behindSum_117 (sd_getI clsX9 (f := 23) (by decide) (fun _ _ _ => rfl) mw_1201 dX9_behindSum_118 (sd_iconst (v := 1) (by decide) dX9_behindSum_121 (sd_isub dX9_behindSum_122 (sd_putI clsX9 (f := 23) (by decide) (fun _ _ _ => rfl) rfl (Or.inl rfl) mw_1201 dX9_behindSum_123 (sd_aload_n (i := 0) rfl dX9_behindSum_126 (sd_dup dX9_behindSum_127 (sd_getI clsX9 (f := 24) (by decide) (fun _ _ _ => rfl) mw_1202 dX9_behindSum_128 (sd_iconst (v := 1) (by decide) dX9_behindSum_131 (sd_isub dX9_behindSum_132 (sd_putI clsX9 (f := 24) (by decide) (fun _ _ _ => rfl) rfl (Or.inl rfl) mw_1202 dX9_behindSum_133 (sd_iconst (v := 3) (by decide) dX9_behindSum_136 (sd_iret (ty := .int) rfl (by decide) (by decide) dX9_behindSum_137))))))))))))))))))))))))))))))) (sd_aload_n (i := 0) rfl dX9_behindSum_63 (sd_iload_n (i := 2) rfl dX9_behindSum_64 (sd_callS (Y' := YX9_binds) (mc' := 0) (ms' := 0) (n := 1) mw_1524 mw_1525 mw_108 mw_1526 (okmX9_binds) (by decide) (Nat.le_refl _) (by decide) (by decide) dX9_behindSum_65 (sd_callV (Y' := YX9_settle) (mc' := 0) (ms' := 0) (n := 1) clsX9.1 mw_1527 mw_1529 mw_67 mw_108 mw_1530 rfl (okmX9_settle) (by decide) (Nat.le_refl _) (by decide) (by decide) dX9_behindSum_68 (sd_aload_n (i := 0) rfl dX9_behindSum_71 (sd_iload_n (i := 2) rfl dX9_behindSum_72 (sd_iconst (v := 0) (by decide) dX9_behindSum_73 (sd_callV (Y' := YX9_push) (mc' := 0) (ms' := 0) (n := 2) clsX9.1 mw_1491 mw_1493 mw_59 mw_108 mw_1494 rfl (okmX9_push) (by decide) (Nat.le_refl _) (by decide) (by decide) dX9_behindSum_74 (sd_aload_n (i := 0) rfl dX9_behindSum_77 (sd_callV (Y' := YX9_next) (mc' := 0) (ms' := 0) (n := 0) clsX9.1 mw_1454 mw_1456 mw_53 mw_108 mw_1457 rfl (okmX9_next) (by decide) (Nat.le_refl _) (by decide) (by decide) dX9_behindSum_78 (sd_iconst (v := 1) (by decide) dX9_behindSum_81 (sd_iret (ty := .int) rfl (by decide) (by decide) dX9_behindSum_82))))))))))))))) : Sd l E YX9_behindSum (d + 1) 0 0 Q 0 0 57 (bX9_behindSum_57 l E d Q)) ls st h hB
def bX9_behindSum_149 (l : Launch) (E : Ev) (d : Nat) (Q : Option Value → Hp → Prop) : Kt := k_aload 0 (k_callV l E 9 55 YX9_isCompared d 0 0 0 (k_if_eq (k_aload 0 (k_push (.int 60) (k_callV l E 9 55 YX9_isSign d 0 0 1 (k_if_eq (k_aload 0 (k_push (.int 62) (k_callV l E 9 55 YX9_isSign d 0 0 1 (k_if_eq (k_push (.int 26) (Go l E YX9_behindSum (d + 1) 0 0 Q 0 0 188)) (k_push (.int 25) (Go l E YX9_behindSum (d + 1) 0 0 Q 0 0 188)))))) (k_push (.int 24) (Go l E YX9_behindSum (d + 1) 0 0 Q 0 0 188)))))) (k_push (.int 2) (k_iret .int Q))))
set_option maxRecDepth 100000 in
set_option maxHeartbeats 4000000 in
theorem gX9_behindSum_149 {l : Launch} {E : Ev} {d : Nat} {Q : Option Value → Hp → Prop} {ls : Lv} {st : List Value} {h : Hp} (hB : bX9_behindSum_149 l E d Q ls st h) : Go l E YX9_behindSum (d + 1) 0 0 Q 0 0 149 ls st h :=
  (sd_aload_n (i := 0) rfl dX9_behindSum_149 (sd_callV (Y' := YX9_isCompared) (mc' := 0) (ms' := 0) (n := 0) clsX9.1 mw_1535 mw_1537 mw_69 mw_108 mw_1538 rfl (okmX9_isCompared) (by decide) (Nat.le_refl _) (by decide) (by decide) dX9_behindSum_150 (sd_if_eq (tgt := 158) (by decide) dX9_behindSum_153 (sd_aload_n (i := 0) rfl dX9_behindSum_158 (sd_bipush (v := 60) (by decide) dX9_behindSum_159 (sd_callV (Y' := YX9_isSign) (mc' := 0) (ms' := 0) (n := 1) clsX9.1 mw_1495 mw_1497 mw_60 mw_108 mw_1498 rfl (okmX9_isSign) (by decide) (Nat.le_refl _) (by decide) (by decide) dX9_behindSum_161 (sd_if_eq (tgt := 172) (by decide) dX9_behindSum_164 (sd_aload_n (i := 0) rfl dX9_behindSum_172 (sd_bipush (v := 62) (by decide) dX9_behindSum_173 (sd_callV (Y' := YX9_isSign) (mc' := 0) (ms' := 0) (n := 1) clsX9.1 mw_1495 mw_1497 mw_60 mw_108 mw_1498 rfl (okmX9_isSign) (by decide) (Nat.le_refl _) (by decide) (by decide) dX9_behindSum_175 (sd_if_eq (tgt := 186) (by decide) dX9_behindSum_178 (sd_bipush (v := 26) (by decide) dX9_behindSum_186 (Sd.go)) (sd_bipush (v := 25) (by decide) dX9_behindSum_181 (sd_goto (tgt := 188) (by decide) dX9_behindSum_183 (Sd.go))))))) (sd_bipush (v := 24) (by decide) dX9_behindSum_167 (sd_goto (tgt := 188) (by decide) dX9_behindSum_169 (Sd.go))))))) (sd_iconst (v := 2) (by decide) dX9_behindSum_156 (sd_iret (ty := .int) rfl (by decide) (by decide) dX9_behindSum_157)))) : Sd l E YX9_behindSum (d + 1) 0 0 Q 0 0 149 (bX9_behindSum_149 l E d Q)) ls st h hB
def bX9_behindSum_188 (l : Launch) (E : Ev) (d : Nat) (Q : Option Value → Hp → Prop) : Kt := k_istore 2 (k_aload 0 (k_iload 2 (k_push (.int 26) (k_icmp_ne (k_push (.int 1) (Go l E YX9_behindSum (d + 1) 0 0 Q 0 0 210)) (k_aload 0 (k_push (.int 61) (k_callV l E 9 55 YX9_isSign d 0 0 1 (k_if_eq (k_push (.int 0) (Go l E YX9_behindSum (d + 1) 0 0 Q 0 0 210)) (k_push (.int 1) (Go l E YX9_behindSum (d + 1) 0 0 Q 0 0 210))))))))))
set_option maxRecDepth 100000 in
set_option maxHeartbeats 4000000 in
theorem gX9_behindSum_188 {l : Launch} {E : Ev} {d : Nat} {Q : Option Value → Hp → Prop} {ls : Lv} {st : List Value} {h : Hp} (hB : bX9_behindSum_188 l E d Q ls st h) : Go l E YX9_behindSum (d + 1) 0 0 Q 0 0 188 ls st h :=
  (sd_istore_n (i := 2) rfl (by decide) dX9_behindSum_188 (sd_aload_n (i := 0) rfl dX9_behindSum_189 (sd_iload_n (i := 2) rfl dX9_behindSum_190 (sd_bipush (v := 26) (by decide) dX9_behindSum_191 (sd_icmp_ne (tgt := 205) (by decide) dX9_behindSum_193 (sd_iconst (v := 1) (by decide) dX9_behindSum_205 (sd_goto (tgt := 210) (by decide) dX9_behindSum_206 (Sd.go))) (sd_aload_n (i := 0) rfl dX9_behindSum_196 (sd_bipush (v := 61) (by decide) dX9_behindSum_197 (sd_callV (Y' := YX9_isSign) (mc' := 0) (ms' := 0) (n := 1) clsX9.1 mw_1495 mw_1497 mw_60 mw_108 mw_1498 rfl (okmX9_isSign) (by decide) (Nat.le_refl _) (by decide) (by decide) dX9_behindSum_199 (sd_if_eq (tgt := 209) (by decide) dX9_behindSum_202 (sd_iconst (v := 0) (by decide) dX9_behindSum_209 (Sd.go)) (sd_iconst (v := 1) (by decide) dX9_behindSum_205 (sd_goto (tgt := 210) (by decide) dX9_behindSum_206 (Sd.go))))))))))) : Sd l E YX9_behindSum (d + 1) 0 0 Q 0 0 188 (bX9_behindSum_188 l E d Q)) ls st h hB
def bX9_behindSum_210 (l : Launch) (E : Ev) (d : Nat) (Q : Option Value → Hp → Prop) : Kt := k_callV l E 9 55 YX9_must d 0 0 1 (k_aload 0 (k_getI 9 55 14 (k_if_ne (k_push (.int 1) (k_iret .int Q)) (k_aload 0 (k_push (.int 5) (k_callV l E 9 55 YX9_settle d 0 0 1 (k_aload 0 (k_iload 2 (k_push (.int 0) (k_callV l E 9 55 YX9_push d 0 0 2 (k_push (.int 1) (k_iret .int Q))))))))))))
set_option maxRecDepth 100000 in
set_option maxHeartbeats 4000000 in
theorem gX9_behindSum_210 {l : Launch} {E : Ev} {d : Nat} {Q : Option Value → Hp → Prop} {ls : Lv} {st : List Value} {h : Hp} (hB : bX9_behindSum_210 l E d Q ls st h) : Go l E YX9_behindSum (d + 1) 0 0 Q 0 0 210 ls st h :=
  (sd_callV (Y' := YX9_must) (mc' := 0) (ms' := 0) (n := 1) clsX9.1 mw_1478 mw_1480 mw_56 mw_108 mw_1481 rfl (okmX9_must) (by decide) (Nat.le_refl _) (by decide) (by decide) dX9_behindSum_210 (sd_aload_n (i := 0) rfl dX9_behindSum_213 (sd_getI clsX9 (f := 14) (by decide) (fun _ _ _ => rfl) mw_1192 dX9_behindSum_214 (sd_if_ne (tgt := 231) (by decide) dX9_behindSum_217 (sd_iconst (v := 1) (by decide) dX9_behindSum_231 (sd_iret (ty := .int) rfl (by decide) (by decide) dX9_behindSum_232)) (sd_aload_n (i := 0) rfl dX9_behindSum_220 (sd_iconst (v := 5) (by decide) dX9_behindSum_221 (sd_callV (Y' := YX9_settle) (mc' := 0) (ms' := 0) (n := 1) clsX9.1 mw_1527 mw_1529 mw_67 mw_108 mw_1530 rfl (okmX9_settle) (by decide) (Nat.le_refl _) (by decide) (by decide) dX9_behindSum_222 (sd_aload_n (i := 0) rfl dX9_behindSum_225 (sd_iload_n (i := 2) rfl dX9_behindSum_226 (sd_iconst (v := 0) (by decide) dX9_behindSum_227 (sd_callV (Y' := YX9_push) (mc' := 0) (ms' := 0) (n := 2) clsX9.1 mw_1491 mw_1493 mw_59 mw_108 mw_1494 rfl (okmX9_push) (by decide) (Nat.le_refl _) (by decide) (by decide) dX9_behindSum_228 (sd_iconst (v := 1) (by decide) dX9_behindSum_231 (sd_iret (ty := .int) rfl (by decide) (by decide) dX9_behindSum_232)))))))))))) : Sd l E YX9_behindSum (d + 1) 0 0 Q 0 0 210 (bX9_behindSum_210 l E d Q)) ls st h hB
theorem eX9_behindSum {l : Launch} {E : Ev} {d : Nat} {Q : Option Value → Hp → Prop} {h : Hp} {a0 : Nat} {x1 : Int32} (hk : Go l E YX9_behindSum d 0 0 Q 0 0 0 [some (.ref a0), some (.int x1), none, none] [] h) : GoM l E YX9_behindSum d 0 0 [.ref a0, .int x1] h Q := GoM.of (by decide +kernel) rfl (by simp [entA, YX9_behindSum]) hk
theorem dX9_behindTest_0 : decode cX9_behindTest 0 = .ok (.aload_n 0, 1) := by decide +kernel
theorem dX9_behindTest_1 : decode cX9_behindTest 1 = .ok (.ldc2_w 288, 3) := by decide +kernel
theorem dX9_behindTest_4 : decode cX9_behindTest 4 = .ok (.invokevirtual 244, 3) := by decide +kernel
theorem dX9_behindTest_7 : decode cX9_behindTest 7 = .ok (.istore_n 1, 1) := by decide +kernel
theorem dX9_behindTest_8 : decode cX9_behindTest 8 = .ok (.iload_n 1, 1) := by decide +kernel
theorem dX9_behindTest_9 : decode cX9_behindTest 9 = .ok (.ifCond .ne 13, 3) := by decide +kernel
theorem dX9_behindTest_12 : decode cX9_behindTest 12 = .ok (.aload_n 0, 1) := by decide +kernel
theorem dX9_behindTest_13 : decode cX9_behindTest 13 = .ok (.ldc2_w 290, 3) := by decide +kernel
theorem dX9_behindTest_16 : decode cX9_behindTest 16 = .ok (.invokevirtual 244, 3) := by decide +kernel
theorem dX9_behindTest_19 : decode cX9_behindTest 19 = .ok (.ifCond .eq 57, 3) := by decide +kernel
theorem dX9_behindTest_22 : decode cX9_behindTest 22 = .ok (.aload_n 0, 1) := by decide +kernel
theorem dX9_behindTest_23 : decode cX9_behindTest 23 = .ok (.iload_n 1, 1) := by decide +kernel
theorem dX9_behindTest_24 : decode cX9_behindTest 24 = .ok (.ifCond .eq 7, 3) := by decide +kernel
theorem dX9_behindTest_27 : decode cX9_behindTest 27 = .ok (.iconst 2, 1) := by decide +kernel
theorem dX9_behindTest_28 : decode cX9_behindTest 28 = .ok (.goto 4, 3) := by decide +kernel
theorem dX9_behindTest_31 : decode cX9_behindTest 31 = .ok (.iconst 1, 1) := by decide +kernel
theorem dX9_behindTest_32 : decode cX9_behindTest 32 = .ok (.invokevirtual 278, 3) := by decide +kernel
theorem dX9_behindTest_35 : decode cX9_behindTest 35 = .ok (.aload_n 0, 1) := by decide +kernel
theorem dX9_behindTest_36 : decode cX9_behindTest 36 = .ok (.iload_n 1, 1) := by decide +kernel
theorem dX9_behindTest_37 : decode cX9_behindTest 37 = .ok (.ifCond .eq 8, 3) := by decide +kernel
theorem dX9_behindTest_40 : decode cX9_behindTest 40 = .ok (.bipush 28, 2) := by decide +kernel
theorem dX9_behindTest_42 : decode cX9_behindTest 42 = .ok (.goto 5, 3) := by decide +kernel
theorem dX9_behindTest_45 : decode cX9_behindTest 45 = .ok (.bipush 29, 2) := by decide +kernel
theorem dX9_behindTest_47 : decode cX9_behindTest 47 = .ok (.aload_n 0, 1) := by decide +kernel
theorem dX9_behindTest_48 : decode cX9_behindTest 48 = .ok (.getfield 223, 3) := by decide +kernel
theorem dX9_behindTest_51 : decode cX9_behindTest 51 = .ok (.invokevirtual 251, 3) := by decide +kernel
theorem dX9_behindTest_54 : decode cX9_behindTest 54 = .ok (.aload_n 0, 1) := by decide +kernel
theorem dX9_behindTest_55 : decode cX9_behindTest 55 = .ok (.iload_n 1, 1) := by decide +kernel
theorem dX9_behindTest_56 : decode cX9_behindTest 56 = .ok (.ifCond .eq 8, 3) := by decide +kernel
theorem dX9_behindTest_59 : decode cX9_behindTest 59 = .ok (.bipush 28, 2) := by decide +kernel
theorem dX9_behindTest_61 : decode cX9_behindTest 61 = .ok (.goto 5, 3) := by decide +kernel
theorem dX9_behindTest_64 : decode cX9_behindTest 64 = .ok (.bipush 29, 2) := by decide +kernel
theorem dX9_behindTest_66 : decode cX9_behindTest 66 = .ok (.iconst 0, 1) := by decide +kernel
theorem dX9_behindTest_67 : decode cX9_behindTest 67 = .ok (.invokevirtual 232, 3) := by decide +kernel
theorem dX9_behindTest_70 : decode cX9_behindTest 70 = .ok (.aload_n 0, 1) := by decide +kernel
theorem dX9_behindTest_71 : decode cX9_behindTest 71 = .ok (.invokevirtual 188, 3) := by decide +kernel
theorem dX9_behindTest_74 : decode cX9_behindTest 74 = .ok (.iconst 0, 1) := by decide +kernel
theorem dX9_behindTest_75 : decode cX9_behindTest 75 = .ok (.ireturn, 1) := by decide +kernel
theorem dX9_behindTest_76 : decode cX9_behindTest 76 = .ok (.aload_n 0, 1) := by decide +kernel
theorem dX9_behindTest_77 : decode cX9_behindTest 77 = .ok (.invokevirtual 281, 3) := by decide +kernel
theorem dX9_behindTest_80 : decode cX9_behindTest 80 = .ok (.iconst (-1), 1) := by decide +kernel
theorem dX9_behindTest_81 : decode cX9_behindTest 81 = .ok (.if_icmp .ne 5, 3) := by decide +kernel
theorem dX9_behindTest_84 : decode cX9_behindTest 84 = .ok (.iconst 4, 1) := by decide +kernel
theorem dX9_behindTest_85 : decode cX9_behindTest 85 = .ok (.ireturn, 1) := by decide +kernel
theorem dX9_behindTest_86 : decode cX9_behindTest 86 = .ok (.aload_n 0, 1) := by decide +kernel
theorem dX9_behindTest_87 : decode cX9_behindTest 87 = .ok (.aload_n 0, 1) := by decide +kernel
theorem dX9_behindTest_88 : decode cX9_behindTest 88 = .ok (.bipush 41, 2) := by decide +kernel
theorem dX9_behindTest_90 : decode cX9_behindTest 90 = .ok (.invokevirtual 257, 3) := by decide +kernel
theorem dX9_behindTest_93 : decode cX9_behindTest 93 = .ok (.invokevirtual 219, 3) := by decide +kernel
theorem dX9_behindTest_96 : decode cX9_behindTest 96 = .ok (.aload_n 0, 1) := by decide +kernel
theorem dX9_behindTest_97 : decode cX9_behindTest 97 = .ok (.getfield 184, 3) := by decide +kernel
theorem dX9_behindTest_100 : decode cX9_behindTest 100 = .ok (.ifCond .ne 28, 3) := by decide +kernel
theorem dX9_behindTest_103 : decode cX9_behindTest 103 = .ok (.aload_n 0, 1) := by decide +kernel
theorem dX9_behindTest_104 : decode cX9_behindTest 104 = .ok (.iconst 1, 1) := by decide +kernel
theorem dX9_behindTest_105 : decode cX9_behindTest 105 = .ok (.invokevirtual 278, 3) := by decide +kernel
theorem dX9_behindTest_108 : decode cX9_behindTest 108 = .ok (.aload_n 0, 1) := by decide +kernel
theorem dX9_behindTest_109 : decode cX9_behindTest 109 = .ok (.dup, 1) := by decide +kernel
theorem dX9_behindTest_110 : decode cX9_behindTest 110 = .ok (.getfield 226, 3) := by decide +kernel
theorem dX9_behindTest_113 : decode cX9_behindTest 113 = .ok (.iconst 1, 1) := by decide +kernel
theorem dX9_behindTest_114 : decode cX9_behindTest 114 = .ok (.isub, 1) := by decide +kernel
theorem dX9_behindTest_115 : decode cX9_behindTest 115 = .ok (.putfield 226, 3) := by decide +kernel
theorem dX9_behindTest_118 : decode cX9_behindTest 118 = .ok (.aload_n 0, 1) := by decide +kernel
theorem dX9_behindTest_119 : decode cX9_behindTest 119 = .ok (.dup, 1) := by decide +kernel
theorem dX9_behindTest_120 : decode cX9_behindTest 120 = .ok (.getfield 248, 3) := by decide +kernel
theorem dX9_behindTest_123 : decode cX9_behindTest 123 = .ok (.iconst 1, 1) := by decide +kernel
theorem dX9_behindTest_124 : decode cX9_behindTest 124 = .ok (.isub, 1) := by decide +kernel
theorem dX9_behindTest_125 : decode cX9_behindTest 125 = .ok (.putfield 248, 3) := by decide +kernel
theorem dX9_behindTest_128 : decode cX9_behindTest 128 = .ok (.iconst 2, 1) := by decide +kernel
theorem dX9_behindTest_129 : decode cX9_behindTest 129 = .ok (.ireturn, 1) := by decide +kernel
def bX9_behindTest_0 (l : Launch) (E : Ev) (d : Nat) (Q : Option Value → Hp → Prop) : Kt := k_aload 0 (k_push (.long 1476) (k_callV l E 9 55 YX9_isWord d 0 0 1 (k_istore 1 (k_iload 1 (k_if_ne (Go l E YX9_behindTest (d + 1) 0 0 Q 0 0 22) (k_aload 0 (k_push (.long 498) (k_callV l E 9 55 YX9_isWord d 0 0 1 (k_if_eq (k_aload 0 (k_callV l E 9 55 YX9_inner d 0 0 0 (k_push (.int (-1)) (k_icmp_ne (k_aload 0 (k_aload 0 (k_push (.int 41) (k_callV l E 9 55 YX9_isSign d 0 0 1 (k_callV l E 9 55 YX9_must d 0 0 1 (k_aload 0 (k_getI 9 55 14 (k_if_ne (k_push (.int 2) (k_iret .int Q)) (k_aload 0 (k_push (.int 1) (k_callV l E 9 55 YX9_settle d 0 0 1 (k_aload 0 (k_dup (k_getI 9 55 23 (k_push (.int 1) (k_isub (k_putI 9 55 23 (k_aload 0 (k_dup (k_getI 9 55 24 (k_push (.int 1) (k_isub (k_putI 9 55 24 (k_push (.int 2) (k_iret .int Q))))))))))))))))))))))))) (k_push (.int 4) (k_iret .int Q)))))) (Go l E YX9_behindTest (d + 1) 0 0 Q 0 0 22))))))))))
set_option maxRecDepth 100000 in
set_option maxHeartbeats 4000000 in
theorem gX9_behindTest_0 {l : Launch} {E : Ev} {d : Nat} {Q : Option Value → Hp → Prop} {ls : Lv} {st : List Value} {h : Hp} (hB : bX9_behindTest_0 l E d Q ls st h) : Go l E YX9_behindTest (d + 1) 0 0 Q 0 0 0 ls st h :=
  (sd_aload_n (i := 0) rfl dX9_behindTest_0 (sd_ldc2 (v := 1476) mw_1547 dX9_behindTest_1 (sd_callV (Y' := YX9_isWord) (mc' := 0) (ms' := 0) (n := 1) clsX9.1 mw_1474 mw_1476 mw_55 mw_108 mw_1477 rfl (okmX9_isWord) (by decide) (Nat.le_refl _) (by decide) (by decide) dX9_behindTest_4 (sd_istore_n (i := 1) rfl (by decide) dX9_behindTest_7 (sd_iload_n (i := 1) rfl dX9_behindTest_8 (sd_if_ne (tgt := 22) (by decide) dX9_behindTest_9 (Sd.go) (sd_aload_n (i := 0) rfl dX9_behindTest_12 (sd_ldc2 (v := 498) mw_1548 dX9_behindTest_13 (sd_callV (Y' := YX9_isWord) (mc' := 0) (ms' := 0) (n := 1) clsX9.1 mw_1474 mw_1476 mw_55 mw_108 mw_1477 rfl (okmX9_isWord) (by decide) (Nat.le_refl _) (by decide) (by decide) dX9_behindTest_16 (sd_if_eq (tgt := 76) (by decide) dX9_behindTest_19 (sd_aload_n (i := 0) rfl dX9_behindTest_76 (sd_callV (Y' := YX9_inner) (mc' := 0) (ms' := 0) (n := 0) clsX9.1 mw_1531 mw_1533 mw_68 mw_108 mw_1534 rfl (okmX9_inner) (by decide) (Nat.le_refl _) (by decide) (by decide) dX9_behindTest_77 (sd_iconst (v := (-1)) (by decide) dX9_behindTest_80 (sd_icmp_ne (tgt := 86) (by decide) dX9_behindTest_81 (sd_aload_n (i := 0) rfl dX9_behindTest_86 (sd_aload_n (i := 0) rfl dX9_behindTest_87 (sd_bipush (v := 41) (by decide) dX9_behindTest_88 (sd_callV (Y' := YX9_isSign) (mc' := 0) (ms' := 0) (n := 1) clsX9.1 mw_1495 mw_1497 mw_60 mw_108 mw_1498 rfl (okmX9_isSign) (by decide) (Nat.le_refl _) (by decide) (by decide) dX9_behindTest_90 (sd_callV (Y' := YX9_must) (mc' := 0) (ms' := 0) (n := 1) clsX9.1 mw_1478 mw_1480 mw_56 mw_108 mw_1481 rfl (okmX9_must) (by decide) (Nat.le_refl _) (by decide) (by decide) dX9_behindTest_93 (sd_aload_n (i := 0) rfl dX9_behindTest_96 (sd_getI clsX9 (f := 14) (by decide) (fun _ _ _ => rfl) mw_1192 dX9_behindTest_97 (sd_if_ne (tgt := 128) (by decide) dX9_behindTest_100 (sd_iconst (v := 2) (by decide) dX9_behindTest_128 (sd_iret (ty := .int) rfl (by decide) (by decide) dX9_behindTest_129)) (sd_aload_n (i := 0) rfl dX9_behindTest_103 (sd_iconst (v := 1) (by decide) dX9_behindTest_104 (sd_callV (Y' := YX9_settle) (mc' := 0) (ms' := 0) (n := 1) clsX9.1 mw_1527 mw_1529 mw_67 mw_108 mw_1530 rfl (okmX9_settle) (by decide) (Nat.le_refl _) (by decide) (by decide) dX9_behindTest_105 (sd_aload_n (i := 0) rfl dX9_behindTest_108 (sd_dup dX9_behindTest_109 (sd_getI clsX9 (f := 23) (by decide) (fun _ _ _ => rfl) mw_1201 dX9_behindTest_110 (sd_iconst (v := 1) (by decide) dX9_behindTest_113 (sd_isub dX9_behindTest_114 (sd_putI clsX9 (f := 23) (by decide) (fun _ _ _ => rfl) rfl (Or.inl rfl) mw_1201 dX9_behindTest_115 (sd_aload_n (i := 0) rfl dX9_behindTest_118 (sd_dup dX9_behindTest_119 (sd_getI clsX9 (f := 24) (by decide) (fun _ _ _ => rfl) mw_1202 dX9_behindTest_120 (sd_iconst (v := 1) (by decide) dX9_behindTest_123 (sd_isub dX9_behindTest_124 (sd_putI clsX9 (f := 24) (by decide) (fun _ _ _ => rfl) rfl (Or.inl rfl) mw_1202 dX9_behindTest_125 (sd_iconst (v := 2) (by decide) dX9_behindTest_128 (sd_iret (ty := .int) rfl (by decide) (by decide) dX9_behindTest_129))))))))))))))))))))))))) (sd_iconst (v := 4) (by decide) dX9_behindTest_84 (sd_iret (ty := .int) rfl (by decide) (by decide) dX9_behindTest_85)))))) (Sd.go)))))))))) : Sd l E YX9_behindTest (d + 1) 0 0 Q 0 0 0 (bX9_behindTest_0 l E d Q)) ls st h hB
def bX9_behindTest_22 (l : Launch) (E : Ev) (d : Nat) (Q : Option Value → Hp → Prop) : Kt := k_aload 0 (k_iload 1 (k_if_eq (k_push (.int 1) (Go l E YX9_behindTest (d + 1) 0 0 Q 0 0 32)) (k_push (.int 2) (Go l E YX9_behindTest (d + 1) 0 0 Q 0 0 32))))
set_option maxRecDepth 100000 in
set_option maxHeartbeats 4000000 in
theorem gX9_behindTest_22 {l : Launch} {E : Ev} {d : Nat} {Q : Option Value → Hp → Prop} {ls : Lv} {st : List Value} {h : Hp} (hB : bX9_behindTest_22 l E d Q ls st h) : Go l E YX9_behindTest (d + 1) 0 0 Q 0 0 22 ls st h :=
  (sd_aload_n (i := 0) rfl dX9_behindTest_22 (sd_iload_n (i := 1) rfl dX9_behindTest_23 (sd_if_eq (tgt := 31) (by decide) dX9_behindTest_24 (sd_iconst (v := 1) (by decide) dX9_behindTest_31 (Sd.go)) (sd_iconst (v := 2) (by decide) dX9_behindTest_27 (sd_goto (tgt := 32) (by decide) dX9_behindTest_28 (Sd.go))))) : Sd l E YX9_behindTest (d + 1) 0 0 Q 0 0 22 (bX9_behindTest_22 l E d Q)) ls st h hB
def bX9_behindTest_32 (l : Launch) (E : Ev) (d : Nat) (Q : Option Value → Hp → Prop) : Kt := k_callV l E 9 55 YX9_settle d 0 0 1 (k_aload 0 (k_iload 1 (k_if_eq (k_push (.int 29) (Go l E YX9_behindTest (d + 1) 0 0 Q 0 0 47)) (k_push (.int 28) (Go l E YX9_behindTest (d + 1) 0 0 Q 0 0 47)))))
set_option maxRecDepth 100000 in
set_option maxHeartbeats 4000000 in
theorem gX9_behindTest_32 {l : Launch} {E : Ev} {d : Nat} {Q : Option Value → Hp → Prop} {ls : Lv} {st : List Value} {h : Hp} (hB : bX9_behindTest_32 l E d Q ls st h) : Go l E YX9_behindTest (d + 1) 0 0 Q 0 0 32 ls st h :=
  (sd_callV (Y' := YX9_settle) (mc' := 0) (ms' := 0) (n := 1) clsX9.1 mw_1527 mw_1529 mw_67 mw_108 mw_1530 rfl (okmX9_settle) (by decide) (Nat.le_refl _) (by decide) (by decide) dX9_behindTest_32 (sd_aload_n (i := 0) rfl dX9_behindTest_35 (sd_iload_n (i := 1) rfl dX9_behindTest_36 (sd_if_eq (tgt := 45) (by decide) dX9_behindTest_37 (sd_bipush (v := 29) (by decide) dX9_behindTest_45 (Sd.go)) (sd_bipush (v := 28) (by decide) dX9_behindTest_40 (sd_goto (tgt := 47) (by decide) dX9_behindTest_42 (Sd.go)))))) : Sd l E YX9_behindTest (d + 1) 0 0 Q 0 0 32 (bX9_behindTest_32 l E d Q)) ls st h hB
def bX9_behindTest_47 (l : Launch) (E : Ev) (d : Nat) (Q : Option Value → Hp → Prop) : Kt := k_aload 0 (k_getI 9 55 17 (k_callV l E 9 55 YX9_push d 0 0 2 (k_aload 0 (k_iload 1 (k_if_eq (k_push (.int 29) (Go l E YX9_behindTest (d + 1) 0 0 Q 0 0 66)) (k_push (.int 28) (Go l E YX9_behindTest (d + 1) 0 0 Q 0 0 66)))))))
set_option maxRecDepth 100000 in
set_option maxHeartbeats 4000000 in
theorem gX9_behindTest_47 {l : Launch} {E : Ev} {d : Nat} {Q : Option Value → Hp → Prop} {ls : Lv} {st : List Value} {h : Hp} (hB : bX9_behindTest_47 l E d Q ls st h) : Go l E YX9_behindTest (d + 1) 0 0 Q 0 0 47 ls st h :=
  (sd_aload_n (i := 0) rfl dX9_behindTest_47 (sd_getI clsX9 (f := 17) (by decide) (fun _ _ _ => rfl) mw_1195 dX9_behindTest_48 (sd_callV (Y' := YX9_push) (mc' := 0) (ms' := 0) (n := 2) clsX9.1 mw_1491 mw_1493 mw_59 mw_108 mw_1494 rfl (okmX9_push) (by decide) (Nat.le_refl _) (by decide) (by decide) dX9_behindTest_51 (sd_aload_n (i := 0) rfl dX9_behindTest_54 (sd_iload_n (i := 1) rfl dX9_behindTest_55 (sd_if_eq (tgt := 64) (by decide) dX9_behindTest_56 (sd_bipush (v := 29) (by decide) dX9_behindTest_64 (Sd.go)) (sd_bipush (v := 28) (by decide) dX9_behindTest_59 (sd_goto (tgt := 66) (by decide) dX9_behindTest_61 (Sd.go)))))))) : Sd l E YX9_behindTest (d + 1) 0 0 Q 0 0 47 (bX9_behindTest_47 l E d Q)) ls st h hB
def bX9_behindTest_66 (l : Launch) (E : Ev) (d : Nat) (Q : Option Value → Hp → Prop) : Kt := k_push (.int 0) (k_callV l E 9 55 YX9_emit d 0 0 2 (k_aload 0 (k_callV l E 9 55 YX9_next d 0 0 0 (k_push (.int 0) (k_iret .int Q)))))
set_option maxRecDepth 100000 in
set_option maxHeartbeats 4000000 in
theorem gX9_behindTest_66 {l : Launch} {E : Ev} {d : Nat} {Q : Option Value → Hp → Prop} {ls : Lv} {st : List Value} {h : Hp} (hB : bX9_behindTest_66 l E d Q ls st h) : Go l E YX9_behindTest (d + 1) 0 0 Q 0 0 66 ls st h :=
  (sd_iconst (v := 0) (by decide) dX9_behindTest_66 (sd_callV (Y' := YX9_emit) (mc' := 0) (ms' := 0) (n := 2) clsX9.1 mw_1516 mw_1518 mw_65 mw_108 mw_1519 rfl (okmX9_emit) (by decide) (Nat.le_refl _) (by decide) (by decide) dX9_behindTest_67 (sd_aload_n (i := 0) rfl dX9_behindTest_70 (sd_callV (Y' := YX9_next) (mc' := 0) (ms' := 0) (n := 0) clsX9.1 mw_1454 mw_1456 mw_53 mw_108 mw_1457 rfl (okmX9_next) (by decide) (Nat.le_refl _) (by decide) (by decide) dX9_behindTest_71 (sd_iconst (v := 0) (by decide) dX9_behindTest_74 (sd_iret (ty := .int) rfl (by decide) (by decide) dX9_behindTest_75))))) : Sd l E YX9_behindTest (d + 1) 0 0 Q 0 0 66 (bX9_behindTest_66 l E d Q)) ls st h hB
theorem eX9_behindTest {l : Launch} {E : Ev} {d : Nat} {Q : Option Value → Hp → Prop} {h : Hp} {a0 : Nat} (hk : Go l E YX9_behindTest d 0 0 Q 0 0 0 [some (.ref a0), none] [] h) : GoM l E YX9_behindTest d 0 0 [.ref a0] h Q := GoM.of (by decide +kernel) rfl (by simp [entA, YX9_behindTest]) hk
theorem dX9_readExpression_0 : decode cX9_readExpression 0 = .ok (.aload_n 0, 1) := by decide +kernel
theorem dX9_readExpression_1 : decode cX9_readExpression 1 = .ok (.iconst 0, 1) := by decide +kernel
theorem dX9_readExpression_2 : decode cX9_readExpression 2 = .ok (.putfield 226, 3) := by decide +kernel
theorem dX9_readExpression_5 : decode cX9_readExpression 5 = .ok (.aload_n 0, 1) := by decide +kernel
theorem dX9_readExpression_6 : decode cX9_readExpression 6 = .ok (.iconst 0, 1) := by decide +kernel
theorem dX9_readExpression_7 : decode cX9_readExpression 7 = .ok (.putfield 248, 3) := by decide +kernel
theorem dX9_readExpression_10 : decode cX9_readExpression 10 = .ok (.iload_n 1, 1) := by decide +kernel
theorem dX9_readExpression_11 : decode cX9_readExpression 11 = .ok (.ifCond .eq 7, 3) := by decide +kernel
theorem dX9_readExpression_14 : decode cX9_readExpression 14 = .ok (.iconst 0, 1) := by decide +kernel
theorem dX9_readExpression_15 : decode cX9_readExpression 15 = .ok (.goto 4, 3) := by decide +kernel
theorem dX9_readExpression_18 : decode cX9_readExpression 18 = .ok (.iconst 1, 1) := by decide +kernel
theorem dX9_readExpression_19 : decode cX9_readExpression 19 = .ok (.istore_n 2, 1) := by decide +kernel
theorem dX9_readExpression_20 : decode cX9_readExpression 20 = .ok (.aload_n 0, 1) := by decide +kernel
theorem dX9_readExpression_21 : decode cX9_readExpression 21 = .ok (.getfield 184, 3) := by decide +kernel
theorem dX9_readExpression_24 : decode cX9_readExpression 24 = .ok (.ifCond .ne 52, 3) := by decide +kernel
theorem dX9_readExpression_27 : decode cX9_readExpression 27 = .ok (.iload_n 2, 1) := by decide +kernel
theorem dX9_readExpression_28 : decode cX9_readExpression 28 = .ok (.iconst 4, 1) := by decide +kernel
theorem dX9_readExpression_29 : decode cX9_readExpression 29 = .ok (.if_icmp .eq 47, 3) := by decide +kernel
theorem dX9_readExpression_32 : decode cX9_readExpression 32 = .ok (.iload_n 2, 1) := by decide +kernel
theorem dX9_readExpression_33 : decode cX9_readExpression 33 = .ok (.ifCond .ne 10, 3) := by decide +kernel
theorem dX9_readExpression_36 : decode cX9_readExpression 36 = .ok (.aload_n 0, 1) := by decide +kernel
theorem dX9_readExpression_37 : decode cX9_readExpression 37 = .ok (.invokevirtual 292, 3) := by decide +kernel
theorem dX9_readExpression_40 : decode cX9_readExpression 40 = .ok (.goto 32, 3) := by decide +kernel
theorem dX9_readExpression_43 : decode cX9_readExpression 43 = .ok (.iload_n 2, 1) := by decide +kernel
theorem dX9_readExpression_44 : decode cX9_readExpression 44 = .ok (.iconst 1, 1) := by decide +kernel
theorem dX9_readExpression_45 : decode cX9_readExpression 45 = .ok (.if_icmp .ne 10, 3) := by decide +kernel
theorem dX9_readExpression_48 : decode cX9_readExpression 48 = .ok (.aload_n 0, 1) := by decide +kernel
theorem dX9_readExpression_49 : decode cX9_readExpression 49 = .ok (.invokevirtual 275, 3) := by decide +kernel
theorem dX9_readExpression_52 : decode cX9_readExpression 52 = .ok (.goto 20, 3) := by decide +kernel
theorem dX9_readExpression_55 : decode cX9_readExpression 55 = .ok (.iload_n 2, 1) := by decide +kernel
theorem dX9_readExpression_56 : decode cX9_readExpression 56 = .ok (.iconst 3, 1) := by decide +kernel
theorem dX9_readExpression_57 : decode cX9_readExpression 57 = .ok (.if_icmp .ne 11, 3) := by decide +kernel
theorem dX9_readExpression_60 : decode cX9_readExpression 60 = .ok (.aload_n 0, 1) := by decide +kernel
theorem dX9_readExpression_61 : decode cX9_readExpression 61 = .ok (.iload_n 1, 1) := by decide +kernel
theorem dX9_readExpression_62 : decode cX9_readExpression 62 = .ok (.invokevirtual 295, 3) := by decide +kernel
theorem dX9_readExpression_65 : decode cX9_readExpression 65 = .ok (.goto 7, 3) := by decide +kernel
theorem dX9_readExpression_68 : decode cX9_readExpression 68 = .ok (.aload_n 0, 1) := by decide +kernel
theorem dX9_readExpression_69 : decode cX9_readExpression 69 = .ok (.invokevirtual 299, 3) := by decide +kernel
theorem dX9_readExpression_72 : decode cX9_readExpression 72 = .ok (.istore_n 2, 1) := by decide +kernel
theorem dX9_readExpression_73 : decode cX9_readExpression 73 = .ok (.goto (-53), 3) := by decide +kernel
theorem dX9_readExpression_76 : decode cX9_readExpression 76 = .ok (.aload_n 0, 1) := by decide +kernel
theorem dX9_readExpression_77 : decode cX9_readExpression 77 = .ok (.iconst 1, 1) := by decide +kernel
theorem dX9_readExpression_78 : decode cX9_readExpression 78 = .ok (.invokevirtual 278, 3) := by decide +kernel
theorem dX9_readExpression_81 : decode cX9_readExpression 81 = .ok (.return_, 1) := by decide +kernel
def bX9_readExpression_0 (l : Launch) (E : Ev) (d : Nat) (Q : Option Value → Hp → Prop) : Kt := k_aload 0 (k_push (.int 0) (k_putI 9 55 23 (k_aload 0 (k_push (.int 0) (k_putI 9 55 24 (k_iload 1 (k_if_eq (k_push (.int 1) (k_istore 2 (Go l E YX9_readExpression (d + 1) 0 0 Q 0 0 20))) (k_push (.int 0) (k_istore 2 (Go l E YX9_readExpression (d + 1) 0 0 Q 0 0 20))))))))))
set_option maxRecDepth 100000 in
set_option maxHeartbeats 4000000 in
theorem gX9_readExpression_0 {l : Launch} {E : Ev} {d : Nat} {Q : Option Value → Hp → Prop} {ls : Lv} {st : List Value} {h : Hp} (hB : bX9_readExpression_0 l E d Q ls st h) : Go l E YX9_readExpression (d + 1) 0 0 Q 0 0 0 ls st h :=
  (sd_aload_n (i := 0) rfl dX9_readExpression_0 (sd_iconst (v := 0) (by decide) dX9_readExpression_1 (sd_putI clsX9 (f := 23) (by decide) (fun _ _ _ => rfl) rfl (Or.inl rfl) mw_1201 dX9_readExpression_2 (sd_aload_n (i := 0) rfl dX9_readExpression_5 (sd_iconst (v := 0) (by decide) dX9_readExpression_6 (sd_putI clsX9 (f := 24) (by decide) (fun _ _ _ => rfl) rfl (Or.inl rfl) mw_1202 dX9_readExpression_7 (sd_iload_n (i := 1) rfl dX9_readExpression_10 (sd_if_eq (tgt := 18) (by decide) dX9_readExpression_11 (sd_iconst (v := 1) (by decide) dX9_readExpression_18 (sd_istore_n (i := 2) rfl (by decide) dX9_readExpression_19 (Sd.go))) (sd_iconst (v := 0) (by decide) dX9_readExpression_14 (sd_goto (tgt := 19) (by decide) dX9_readExpression_15 (sd_istore_n (i := 2) rfl (by decide) dX9_readExpression_19 (Sd.go))))))))))) : Sd l E YX9_readExpression (d + 1) 0 0 Q 0 0 0 (bX9_readExpression_0 l E d Q)) ls st h hB
def bX9_readExpression_20 (l : Launch) (E : Ev) (d : Nat) (Q : Option Value → Hp → Prop) : Kt := k_aload 0 (k_getI 9 55 14 (k_if_ne (Go l E YX9_readExpression (d + 1) 0 0 Q 0 0 76) (k_iload 2 (k_push (.int 4) (k_icmp_eq (Go l E YX9_readExpression (d + 1) 0 0 Q 0 0 76) (k_iload 2 (k_if_ne (k_iload 2 (k_push (.int 1) (k_icmp_ne (k_iload 2 (k_push (.int 3) (k_icmp_ne (k_aload 0 (k_callV l E 9 55 YX9_behindTest d 0 0 0 (k_istore 2 (Go l E YX9_readExpression (d + 1) 0 0 Q 0 0 20)))) (k_aload 0 (k_iload 1 (k_callV l E 9 55 YX9_behindSum d 0 0 1 (k_istore 2 (Go l E YX9_readExpression (d + 1) 0 0 Q 0 0 20)))))))) (k_aload 0 (k_callV l E 9 55 YX9_readPart d 0 0 0 (k_istore 2 (Go l E YX9_readExpression (d + 1) 0 0 Q 0 0 20))))))) (k_aload 0 (k_callV l E 9 55 YX9_readPlain d 0 0 0 (k_istore 2 (Go l E YX9_readExpression (d + 1) 0 0 Q 0 0 20)))))))))))
set_option maxRecDepth 100000 in
set_option maxHeartbeats 4000000 in
theorem gX9_readExpression_20 {l : Launch} {E : Ev} {d : Nat} {Q : Option Value → Hp → Prop} {ls : Lv} {st : List Value} {h : Hp} (hB : bX9_readExpression_20 l E d Q ls st h) : Go l E YX9_readExpression (d + 1) 0 0 Q 0 0 20 ls st h :=
  (sd_aload_n (i := 0) rfl dX9_readExpression_20 (sd_getI clsX9 (f := 14) (by decide) (fun _ _ _ => rfl) mw_1192 dX9_readExpression_21 (sd_if_ne (tgt := 76) (by decide) dX9_readExpression_24 (Sd.go) (sd_iload_n (i := 2) rfl dX9_readExpression_27 (sd_iconst (v := 4) (by decide) dX9_readExpression_28 (sd_icmp_eq (tgt := 76) (by decide) dX9_readExpression_29 (Sd.go) (sd_iload_n (i := 2) rfl dX9_readExpression_32 (sd_if_ne (tgt := 43) (by decide) dX9_readExpression_33 (sd_iload_n (i := 2) rfl dX9_readExpression_43 (sd_iconst (v := 1) (by decide) dX9_readExpression_44 (sd_icmp_ne (tgt := 55) (by decide) dX9_readExpression_45 (sd_iload_n (i := 2) rfl dX9_readExpression_55 (sd_iconst (v := 3) (by decide) dX9_readExpression_56 (sd_icmp_ne (tgt := 68) (by decide) dX9_readExpression_57 (sd_aload_n (i := 0) rfl dX9_readExpression_68 (sd_callV (Y' := YX9_behindTest) (mc' := 0) (ms' := 0) (n := 0) clsX9.1 mw_1543 mw_1545 mw_70 mw_108 mw_1546 rfl (okmX9_behindTest) (by decide) (Nat.le_refl _) (by decide) (by decide) dX9_readExpression_69 (sd_istore_n (i := 2) rfl (by decide) dX9_readExpression_72 (sd_goto (tgt := 20) (by decide) dX9_readExpression_73 (Sd.go))))) (sd_aload_n (i := 0) rfl dX9_readExpression_60 (sd_iload_n (i := 1) rfl dX9_readExpression_61 (sd_callV (Y' := YX9_behindSum) (mc' := 0) (ms' := 0) (n := 1) clsX9.1 mw_1520 mw_1522 mw_66 mw_108 mw_1523 rfl (okmX9_behindSum) (by decide) (Nat.le_refl _) (by decide) (by decide) dX9_readExpression_62 (sd_goto (tgt := 72) (by decide) dX9_readExpression_65 (sd_istore_n (i := 2) rfl (by decide) dX9_readExpression_72 (sd_goto (tgt := 20) (by decide) dX9_readExpression_73 (Sd.go)))))))))) (sd_aload_n (i := 0) rfl dX9_readExpression_48 (sd_callV (Y' := YX9_readPart) (mc' := 0) (ms' := 0) (n := 0) clsX9.1 mw_1503 mw_1505 mw_62 mw_108 mw_1506 rfl (okmX9_readPart) (by decide) (Nat.le_refl _) (by decide) (by decide) dX9_readExpression_49 (sd_goto (tgt := 72) (by decide) dX9_readExpression_52 (sd_istore_n (i := 2) rfl (by decide) dX9_readExpression_72 (sd_goto (tgt := 20) (by decide) dX9_readExpression_73 (Sd.go))))))))) (sd_aload_n (i := 0) rfl dX9_readExpression_36 (sd_callV (Y' := YX9_readPlain) (mc' := 0) (ms' := 0) (n := 0) clsX9.1 mw_1486 mw_1488 mw_58 mw_108 mw_1489 rfl (okmX9_readPlain) (by decide) (Nat.le_refl _) (by decide) (by decide) dX9_readExpression_37 (sd_goto (tgt := 72) (by decide) dX9_readExpression_40 (sd_istore_n (i := 2) rfl (by decide) dX9_readExpression_72 (sd_goto (tgt := 20) (by decide) dX9_readExpression_73 (Sd.go))))))))))))) : Sd l E YX9_readExpression (d + 1) 0 0 Q 0 0 20 (bX9_readExpression_20 l E d Q)) ls st h hB
def bX9_readExpression_76 (l : Launch) (E : Ev) (d : Nat) (Q : Option Value → Hp → Prop) : Kt := k_aload 0 (k_push (.int 1) (k_callV l E 9 55 YX9_settle d 0 0 1 (k_vret Q)))
set_option maxRecDepth 100000 in
set_option maxHeartbeats 4000000 in
theorem gX9_readExpression_76 {l : Launch} {E : Ev} {d : Nat} {Q : Option Value → Hp → Prop} {ls : Lv} {st : List Value} {h : Hp} (hB : bX9_readExpression_76 l E d Q ls st h) : Go l E YX9_readExpression (d + 1) 0 0 Q 0 0 76 ls st h :=
  (sd_aload_n (i := 0) rfl dX9_readExpression_76 (sd_iconst (v := 1) (by decide) dX9_readExpression_77 (sd_callV (Y' := YX9_settle) (mc' := 0) (ms' := 0) (n := 1) clsX9.1 mw_1527 mw_1529 mw_67 mw_108 mw_1530 rfl (okmX9_settle) (by decide) (Nat.le_refl _) (by decide) (by decide) dX9_readExpression_78 (sd_vret rfl (by decide) (by decide) dX9_readExpression_81))) : Sd l E YX9_readExpression (d + 1) 0 0 Q 0 0 76 (bX9_readExpression_76 l E d Q)) ls st h hB
theorem eX9_readExpression {l : Launch} {E : Ev} {d : Nat} {Q : Option Value → Hp → Prop} {h : Hp} {a0 : Nat} {x1 : Int32} (hk : Go l E YX9_readExpression d 0 0 Q 0 0 0 [some (.ref a0), some (.int x1), none] [] h) : GoM l E YX9_readExpression d 0 0 [.ref a0, .int x1] h Q := GoM.of (by decide +kernel) rfl (by simp [entA, YX9_readExpression]) hk
theorem dX9_readClause_0 : decode cX9_readClause 0 = .ok (.iconst (-1), 1) := by decide +kernel
theorem dX9_readClause_1 : decode cX9_readClause 1 = .ok (.istore_n 1, 1) := by decide +kernel
theorem dX9_readClause_2 : decode cX9_readClause 2 = .ok (.iconst 0, 1) := by decide +kernel
theorem dX9_readClause_3 : decode cX9_readClause 3 = .ok (.istore_n 2, 1) := by decide +kernel
theorem dX9_readClause_4 : decode cX9_readClause 4 = .ok (.iload_n 2, 1) := by decide +kernel
theorem dX9_readClause_5 : decode cX9_readClause 5 = .ok (.iconst 4, 1) := by decide +kernel
theorem dX9_readClause_6 : decode cX9_readClause 6 = .ok (.if_icmp .ge 28, 3) := by decide +kernel
theorem dX9_readClause_9 : decode cX9_readClause 9 = .ok (.aload_n 0, 1) := by decide +kernel
theorem dX9_readClause_10 : decode cX9_readClause 10 = .ok (.aload_n 0, 1) := by decide +kernel
theorem dX9_readClause_11 : decode cX9_readClause 11 = .ok (.getfield 77, 3) := by decide +kernel
theorem dX9_readClause_14 : decode cX9_readClause 14 = .ok (.iload_n 2, 1) := by decide +kernel
theorem dX9_readClause_15 : decode cX9_readClause 15 = .ok (.laload, 1) := by decide +kernel
theorem dX9_readClause_16 : decode cX9_readClause 16 = .ok (.invokevirtual 244, 3) := by decide +kernel
theorem dX9_readClause_19 : decode cX9_readClause 19 = .ok (.ifCond .eq 7, 3) := by decide +kernel
theorem dX9_readClause_22 : decode cX9_readClause 22 = .ok (.iload_n 2, 1) := by decide +kernel
theorem dX9_readClause_23 : decode cX9_readClause 23 = .ok (.goto 4, 3) := by decide +kernel
theorem dX9_readClause_26 : decode cX9_readClause 26 = .ok (.iload_n 1, 1) := by decide +kernel
theorem dX9_readClause_27 : decode cX9_readClause 27 = .ok (.istore_n 1, 1) := by decide +kernel
theorem dX9_readClause_28 : decode cX9_readClause 28 = .ok (.iinc 2 1, 3) := by decide +kernel
theorem dX9_readClause_31 : decode cX9_readClause 31 = .ok (.goto (-27), 3) := by decide +kernel
theorem dX9_readClause_34 : decode cX9_readClause 34 = .ok (.aload_n 0, 1) := by decide +kernel
theorem dX9_readClause_35 : decode cX9_readClause 35 = .ok (.iload_n 1, 1) := by decide +kernel
theorem dX9_readClause_36 : decode cX9_readClause 36 = .ok (.iconst (-1), 1) := by decide +kernel
theorem dX9_readClause_37 : decode cX9_readClause 37 = .ok (.if_icmp .eq 16, 3) := by decide +kernel
theorem dX9_readClause_40 : decode cX9_readClause 40 = .ok (.aload_n 0, 1) := by decide +kernel
theorem dX9_readClause_41 : decode cX9_readClause 41 = .ok (.getfield 302, 3) := by decide +kernel
theorem dX9_readClause_44 : decode cX9_readClause 44 = .ok (.bipush 12, 2) := by decide +kernel
theorem dX9_readClause_46 : decode cX9_readClause 46 = .ok (.if_icmp .ge 7, 3) := by decide +kernel
theorem dX9_readClause_49 : decode cX9_readClause 49 = .ok (.iconst 1, 1) := by decide +kernel
theorem dX9_readClause_50 : decode cX9_readClause 50 = .ok (.goto 4, 3) := by decide +kernel
theorem dX9_readClause_53 : decode cX9_readClause 53 = .ok (.iconst 0, 1) := by decide +kernel
theorem dX9_readClause_54 : decode cX9_readClause 54 = .ok (.invokevirtual 219, 3) := by decide +kernel
theorem dX9_readClause_57 : decode cX9_readClause 57 = .ok (.aload_n 0, 1) := by decide +kernel
theorem dX9_readClause_58 : decode cX9_readClause 58 = .ok (.getfield 184, 3) := by decide +kernel
theorem dX9_readClause_61 : decode cX9_readClause 61 = .ok (.ifCond .eq 4, 3) := by decide +kernel
theorem dX9_readClause_64 : decode cX9_readClause 64 = .ok (.return_, 1) := by decide +kernel
theorem dX9_readClause_65 : decode cX9_readClause 65 = .ok (.bipush 8, 2) := by decide +kernel
theorem dX9_readClause_67 : decode cX9_readClause 67 = .ok (.aload_n 0, 1) := by decide +kernel
theorem dX9_readClause_68 : decode cX9_readClause 68 = .ok (.getfield 302, 3) := by decide +kernel
theorem dX9_readClause_71 : decode cX9_readClause 71 = .ok (.imul, 1) := by decide +kernel
theorem dX9_readClause_72 : decode cX9_readClause 72 = .ok (.istore_n 2, 1) := by decide +kernel
theorem dX9_readClause_73 : decode cX9_readClause 73 = .ok (.iconst 0, 1) := by decide +kernel
theorem dX9_readClause_74 : decode cX9_readClause 74 = .ok (.istore_n 3, 1) := by decide +kernel
theorem dX9_readClause_75 : decode cX9_readClause 75 = .ok (.iload_n 3, 1) := by decide +kernel
theorem dX9_readClause_76 : decode cX9_readClause 76 = .ok (.bipush 8, 2) := by decide +kernel
theorem dX9_readClause_78 : decode cX9_readClause 78 = .ok (.if_icmp .ge 18, 3) := by decide +kernel
theorem dX9_readClause_81 : decode cX9_readClause 81 = .ok (.aload_n 0, 1) := by decide +kernel
theorem dX9_readClause_82 : decode cX9_readClause 82 = .ok (.getfield 30, 3) := by decide +kernel
theorem dX9_readClause_85 : decode cX9_readClause 85 = .ok (.iload_n 2, 1) := by decide +kernel
theorem dX9_readClause_86 : decode cX9_readClause 86 = .ok (.iload_n 3, 1) := by decide +kernel
theorem dX9_readClause_87 : decode cX9_readClause 87 = .ok (.iadd, 1) := by decide +kernel
theorem dX9_readClause_88 : decode cX9_readClause 88 = .ok (.iconst 0, 1) := by decide +kernel
theorem dX9_readClause_89 : decode cX9_readClause 89 = .ok (.iastore, 1) := by decide +kernel
theorem dX9_readClause_90 : decode cX9_readClause 90 = .ok (.iinc 3 1, 3) := by decide +kernel
theorem dX9_readClause_93 : decode cX9_readClause 93 = .ok (.goto (-18), 3) := by decide +kernel
theorem dX9_readClause_96 : decode cX9_readClause 96 = .ok (.aload_n 0, 1) := by decide +kernel
theorem dX9_readClause_97 : decode cX9_readClause 97 = .ok (.getfield 30, 3) := by decide +kernel
theorem dX9_readClause_100 : decode cX9_readClause 100 = .ok (.iload_n 2, 1) := by decide +kernel
theorem dX9_readClause_101 : decode cX9_readClause 101 = .ok (.iload_n 1, 1) := by decide +kernel
theorem dX9_readClause_102 : decode cX9_readClause 102 = .ok (.iastore, 1) := by decide +kernel
theorem dX9_readClause_103 : decode cX9_readClause 103 = .ok (.aload_n 0, 1) := by decide +kernel
theorem dX9_readClause_104 : decode cX9_readClause 104 = .ok (.dup, 1) := by decide +kernel
theorem dX9_readClause_105 : decode cX9_readClause 105 = .ok (.getfield 302, 3) := by decide +kernel
theorem dX9_readClause_108 : decode cX9_readClause 108 = .ok (.iconst 1, 1) := by decide +kernel
theorem dX9_readClause_109 : decode cX9_readClause 109 = .ok (.iadd, 1) := by decide +kernel
theorem dX9_readClause_110 : decode cX9_readClause 110 = .ok (.putfield 302, 3) := by decide +kernel
theorem dX9_readClause_113 : decode cX9_readClause 113 = .ok (.aload_n 0, 1) := by decide +kernel
theorem dX9_readClause_114 : decode cX9_readClause 114 = .ok (.getfield 30, 3) := by decide +kernel
theorem dX9_readClause_117 : decode cX9_readClause 117 = .ok (.iload_n 2, 1) := by decide +kernel
theorem dX9_readClause_118 : decode cX9_readClause 118 = .ok (.iconst 3, 1) := by decide +kernel
theorem dX9_readClause_119 : decode cX9_readClause 119 = .ok (.iadd, 1) := by decide +kernel
theorem dX9_readClause_120 : decode cX9_readClause 120 = .ok (.aload_n 0, 1) := by decide +kernel
theorem dX9_readClause_121 : decode cX9_readClause 121 = .ok (.getfield 223, 3) := by decide +kernel
theorem dX9_readClause_124 : decode cX9_readClause 124 = .ok (.iastore, 1) := by decide +kernel
theorem dX9_readClause_125 : decode cX9_readClause 125 = .ok (.iload_n 1, 1) := by decide +kernel
theorem dX9_readClause_126 : decode cX9_readClause 126 = .ok (.iconst 2, 1) := by decide +kernel
theorem dX9_readClause_127 : decode cX9_readClause 127 = .ok (.if_icmp .ge 8, 3) := by decide +kernel
theorem dX9_readClause_130 : decode cX9_readClause 130 = .ok (.aload_n 0, 1) := by decide +kernel
theorem dX9_readClause_131 : decode cX9_readClause 131 = .ok (.iconst 0, 1) := by decide +kernel
theorem dX9_readClause_132 : decode cX9_readClause 132 = .ok (.invokevirtual 305, 3) := by decide +kernel
theorem dX9_readClause_135 : decode cX9_readClause 135 = .ok (.aload_n 0, 1) := by decide +kernel
theorem dX9_readClause_136 : decode cX9_readClause 136 = .ok (.getfield 30, 3) := by decide +kernel
theorem dX9_readClause_139 : decode cX9_readClause 139 = .ok (.iload_n 2, 1) := by decide +kernel
theorem dX9_readClause_140 : decode cX9_readClause 140 = .ok (.iconst 4, 1) := by decide +kernel
theorem dX9_readClause_141 : decode cX9_readClause 141 = .ok (.iadd, 1) := by decide +kernel
theorem dX9_readClause_142 : decode cX9_readClause 142 = .ok (.aload_n 0, 1) := by decide +kernel
theorem dX9_readClause_143 : decode cX9_readClause 143 = .ok (.getfield 223, 3) := by decide +kernel
theorem dX9_readClause_146 : decode cX9_readClause 146 = .ok (.iastore, 1) := by decide +kernel
theorem dX9_readClause_147 : decode cX9_readClause 147 = .ok (.aload_n 0, 1) := by decide +kernel
theorem dX9_readClause_148 : decode cX9_readClause 148 = .ok (.getfield 30, 3) := by decide +kernel
theorem dX9_readClause_151 : decode cX9_readClause 151 = .ok (.iload_n 2, 1) := by decide +kernel
theorem dX9_readClause_152 : decode cX9_readClause 152 = .ok (.iconst 5, 1) := by decide +kernel
theorem dX9_readClause_153 : decode cX9_readClause 153 = .ok (.iadd, 1) := by decide +kernel
theorem dX9_readClause_154 : decode cX9_readClause 154 = .ok (.aload_n 0, 1) := by decide +kernel
theorem dX9_readClause_155 : decode cX9_readClause 155 = .ok (.getfield 223, 3) := by decide +kernel
theorem dX9_readClause_158 : decode cX9_readClause 158 = .ok (.iastore, 1) := by decide +kernel
theorem dX9_readClause_159 : decode cX9_readClause 159 = .ok (.aload_n 0, 1) := by decide +kernel
theorem dX9_readClause_160 : decode cX9_readClause 160 = .ok (.getfield 184, 3) := by decide +kernel
theorem dX9_readClause_163 : decode cX9_readClause 163 = .ok (.ifCond .ne 22, 3) := by decide +kernel
theorem dX9_readClause_166 : decode cX9_readClause 166 = .ok (.aload_n 0, 1) := by decide +kernel
theorem dX9_readClause_167 : decode cX9_readClause 167 = .ok (.ldc2_w 308, 3) := by decide +kernel
theorem dX9_readClause_170 : decode cX9_readClause 170 = .ok (.invokevirtual 244, 3) := by decide +kernel
theorem dX9_readClause_173 : decode cX9_readClause 173 = .ok (.ifCond .eq 12, 3) := by decide +kernel
theorem dX9_readClause_176 : decode cX9_readClause 176 = .ok (.aload_n 0, 1) := by decide +kernel
theorem dX9_readClause_177 : decode cX9_readClause 177 = .ok (.invokevirtual 188, 3) := by decide +kernel
theorem dX9_readClause_180 : decode cX9_readClause 180 = .ok (.aload_n 0, 1) := by decide +kernel
theorem dX9_readClause_181 : decode cX9_readClause 181 = .ok (.iconst 1, 1) := by decide +kernel
theorem dX9_readClause_182 : decode cX9_readClause 182 = .ok (.invokevirtual 305, 3) := by decide +kernel
theorem dX9_readClause_185 : decode cX9_readClause 185 = .ok (.aload_n 0, 1) := by decide +kernel
theorem dX9_readClause_186 : decode cX9_readClause 186 = .ok (.getfield 30, 3) := by decide +kernel
theorem dX9_readClause_189 : decode cX9_readClause 189 = .ok (.iload_n 2, 1) := by decide +kernel
theorem dX9_readClause_190 : decode cX9_readClause 190 = .ok (.bipush 6, 2) := by decide +kernel
theorem dX9_readClause_192 : decode cX9_readClause 192 = .ok (.iadd, 1) := by decide +kernel
theorem dX9_readClause_193 : decode cX9_readClause 193 = .ok (.aload_n 0, 1) := by decide +kernel
theorem dX9_readClause_194 : decode cX9_readClause 194 = .ok (.getfield 223, 3) := by decide +kernel
theorem dX9_readClause_197 : decode cX9_readClause 197 = .ok (.iastore, 1) := by decide +kernel
theorem dX9_readClause_198 : decode cX9_readClause 198 = .ok (.return_, 1) := by decide +kernel
def bX9_readClause_0 (l : Launch) (E : Ev) (d : Nat) (Q : Option Value → Hp → Prop) : Kt := k_push (.int (-1)) (k_istore 1 (k_push (.int 0) (k_istore 2 (Go l E YX9_readClause (d + 1) 0 0 Q 0 0 4))))
set_option maxRecDepth 100000 in
set_option maxHeartbeats 4000000 in
theorem gX9_readClause_0 {l : Launch} {E : Ev} {d : Nat} {Q : Option Value → Hp → Prop} {ls : Lv} {st : List Value} {h : Hp} (hB : bX9_readClause_0 l E d Q ls st h) : Go l E YX9_readClause (d + 1) 0 0 Q 0 0 0 ls st h :=
  (sd_iconst (v := (-1)) (by decide) dX9_readClause_0 (sd_istore_n (i := 1) rfl (by decide) dX9_readClause_1 (sd_iconst (v := 0) (by decide) dX9_readClause_2 (sd_istore_n (i := 2) rfl (by decide) dX9_readClause_3 (Sd.go)))) : Sd l E YX9_readClause (d + 1) 0 0 Q 0 0 0 (bX9_readClause_0 l E d Q)) ls st h hB
def bX9_readClause_4 (l : Launch) (E : Ev) (d : Nat) (Q : Option Value → Hp → Prop) : Kt := k_iload 2 (k_push (.int 4) (k_icmp_ge (k_aload 0 (k_iload 1 (k_push (.int (-1)) (k_icmp_eq (k_push (.int 0) (Go l E YX9_readClause (d + 1) 0 0 Q 0 0 54)) (k_aload 0 (k_getI 9 55 15 (k_push (.int 12) (k_icmp_ge (k_push (.int 0) (Go l E YX9_readClause (d + 1) 0 0 Q 0 0 54)) (k_push (.int 1) (Go l E YX9_readClause (d + 1) 0 0 Q 0 0 54)))))))))) (k_aload 0 (k_aload 0 (k_getR 9 55 26 (k_iload 2 (k_laload (k_callV l E 9 55 YX9_isWord d 0 0 1 (k_if_eq (k_iload 1 (k_istore 1 (k_iinc 2 1 (Go l E YX9_readClause (d + 1) 0 0 Q 0 0 4)))) (k_iload 2 (k_istore 1 (k_iinc 2 1 (Go l E YX9_readClause (d + 1) 0 0 Q 0 0 4)))))))))))))
set_option maxRecDepth 100000 in
set_option maxHeartbeats 4000000 in
theorem gX9_readClause_4 {l : Launch} {E : Ev} {d : Nat} {Q : Option Value → Hp → Prop} {ls : Lv} {st : List Value} {h : Hp} (hB : bX9_readClause_4 l E d Q ls st h) : Go l E YX9_readClause (d + 1) 0 0 Q 0 0 4 ls st h :=
  (sd_iload_n (i := 2) rfl dX9_readClause_4 (sd_iconst (v := 4) (by decide) dX9_readClause_5 (sd_icmp_ge (tgt := 34) (by decide) dX9_readClause_6 (sd_aload_n (i := 0) rfl dX9_readClause_34 (sd_iload_n (i := 1) rfl dX9_readClause_35 (sd_iconst (v := (-1)) (by decide) dX9_readClause_36 (sd_icmp_eq (tgt := 53) (by decide) dX9_readClause_37 (sd_iconst (v := 0) (by decide) dX9_readClause_53 (Sd.go)) (sd_aload_n (i := 0) rfl dX9_readClause_40 (sd_getI clsX9 (f := 15) (by decide) (fun _ _ _ => rfl) mw_1193 dX9_readClause_41 (sd_bipush (v := 12) (by decide) dX9_readClause_44 (sd_icmp_ge (tgt := 53) (by decide) dX9_readClause_46 (sd_iconst (v := 0) (by decide) dX9_readClause_53 (Sd.go)) (sd_iconst (v := 1) (by decide) dX9_readClause_49 (sd_goto (tgt := 54) (by decide) dX9_readClause_50 (Sd.go))))))))))) (sd_aload_n (i := 0) rfl dX9_readClause_9 (sd_aload_n (i := 0) rfl dX9_readClause_10 (sd_getR clsX9 (f := 26) (by decide) (fun _ _ _ => rfl) mw_1204 dX9_readClause_11 (sd_iload_n (i := 2) rfl dX9_readClause_14 (sd_laload dX9_readClause_15 (sd_callV (Y' := YX9_isWord) (mc' := 0) (ms' := 0) (n := 1) clsX9.1 mw_1474 mw_1476 mw_55 mw_108 mw_1477 rfl (okmX9_isWord) (by decide) (Nat.le_refl _) (by decide) (by decide) dX9_readClause_16 (sd_if_eq (tgt := 26) (by decide) dX9_readClause_19 (sd_iload_n (i := 1) rfl dX9_readClause_26 (sd_istore_n (i := 1) rfl (by decide) dX9_readClause_27 (sd_iinc (i := 2) (v := 1) (by decide) (by decide) dX9_readClause_28 (sd_goto (tgt := 4) (by decide) dX9_readClause_31 (Sd.go))))) (sd_iload_n (i := 2) rfl dX9_readClause_22 (sd_goto (tgt := 27) (by decide) dX9_readClause_23 (sd_istore_n (i := 1) rfl (by decide) dX9_readClause_27 (sd_iinc (i := 2) (v := 1) (by decide) (by decide) dX9_readClause_28 (sd_goto (tgt := 4) (by decide) dX9_readClause_31 (Sd.go))))))))))))))) : Sd l E YX9_readClause (d + 1) 0 0 Q 0 0 4 (bX9_readClause_4 l E d Q)) ls st h hB
def bX9_readClause_54 (l : Launch) (E : Ev) (d : Nat) (Q : Option Value → Hp → Prop) : Kt := k_callV l E 9 55 YX9_must d 0 0 1 (k_aload 0 (k_getI 9 55 14 (k_if_eq (k_push (.int 8) (k_aload 0 (k_getI 9 55 15 (k_imul (k_istore 2 (k_push (.int 0) (k_istore 3 (Go l E YX9_readClause (d + 1) 0 0 Q 0 0 75)))))))) (k_vret Q))))
set_option maxRecDepth 100000 in
set_option maxHeartbeats 4000000 in
theorem gX9_readClause_54 {l : Launch} {E : Ev} {d : Nat} {Q : Option Value → Hp → Prop} {ls : Lv} {st : List Value} {h : Hp} (hB : bX9_readClause_54 l E d Q ls st h) : Go l E YX9_readClause (d + 1) 0 0 Q 0 0 54 ls st h :=
  (sd_callV (Y' := YX9_must) (mc' := 0) (ms' := 0) (n := 1) clsX9.1 mw_1478 mw_1480 mw_56 mw_108 mw_1481 rfl (okmX9_must) (by decide) (Nat.le_refl _) (by decide) (by decide) dX9_readClause_54 (sd_aload_n (i := 0) rfl dX9_readClause_57 (sd_getI clsX9 (f := 14) (by decide) (fun _ _ _ => rfl) mw_1192 dX9_readClause_58 (sd_if_eq (tgt := 65) (by decide) dX9_readClause_61 (sd_bipush (v := 8) (by decide) dX9_readClause_65 (sd_aload_n (i := 0) rfl dX9_readClause_67 (sd_getI clsX9 (f := 15) (by decide) (fun _ _ _ => rfl) mw_1193 dX9_readClause_68 (sd_imul dX9_readClause_71 (sd_istore_n (i := 2) rfl (by decide) dX9_readClause_72 (sd_iconst (v := 0) (by decide) dX9_readClause_73 (sd_istore_n (i := 3) rfl (by decide) dX9_readClause_74 (Sd.go)))))))) (sd_vret rfl (by decide) (by decide) dX9_readClause_64)))) : Sd l E YX9_readClause (d + 1) 0 0 Q 0 0 54 (bX9_readClause_54 l E d Q)) ls st h hB
def bX9_readClause_75 (l : Launch) (E : Ev) (d : Nat) (Q : Option Value → Hp → Prop) : Kt := k_iload 3 (k_push (.int 8) (k_icmp_ge (k_aload 0 (k_getR 9 55 16 (k_iload 2 (k_iload 1 (k_iastore (k_aload 0 (k_dup (k_getI 9 55 15 (k_push (.int 1) (k_iadd (k_putI 9 55 15 (k_aload 0 (k_getR 9 55 16 (k_iload 2 (k_push (.int 3) (k_iadd (k_aload 0 (k_getI 9 55 17 (k_iastore (k_iload 1 (k_push (.int 2) (k_icmp_ge (Go l E YX9_readClause (d + 1) 0 0 Q 0 0 135) (k_aload 0 (k_push (.int 0) (k_callV l E 9 55 YX9_readExpression d 0 0 1 (Go l E YX9_readClause (d + 1) 0 0 Q 0 0 135)))))))))))))))))))))))))) (k_aload 0 (k_getR 9 55 16 (k_iload 2 (k_iload 3 (k_iadd (k_push (.int 0) (k_iastore (k_iinc 3 1 (Go l E YX9_readClause (d + 1) 0 0 Q 0 0 75)))))))))))
set_option maxRecDepth 100000 in
set_option maxHeartbeats 4000000 in
theorem gX9_readClause_75 {l : Launch} {E : Ev} {d : Nat} {Q : Option Value → Hp → Prop} {ls : Lv} {st : List Value} {h : Hp} (hB : bX9_readClause_75 l E d Q ls st h) : Go l E YX9_readClause (d + 1) 0 0 Q 0 0 75 ls st h :=
  (sd_iload_n (i := 3) rfl dX9_readClause_75 (sd_bipush (v := 8) (by decide) dX9_readClause_76 (sd_icmp_ge (tgt := 96) (by decide) dX9_readClause_78 (sd_aload_n (i := 0) rfl dX9_readClause_96 (sd_getR clsX9 (f := 16) (by decide) (fun _ _ _ => rfl) mw_1194 dX9_readClause_97 (sd_iload_n (i := 2) rfl dX9_readClause_100 (sd_iload_n (i := 1) rfl dX9_readClause_101 (sd_iastore dX9_readClause_102 (sd_aload_n (i := 0) rfl dX9_readClause_103 (sd_dup dX9_readClause_104 (sd_getI clsX9 (f := 15) (by decide) (fun _ _ _ => rfl) mw_1193 dX9_readClause_105 (sd_iconst (v := 1) (by decide) dX9_readClause_108 (sd_iadd dX9_readClause_109 (sd_putI clsX9 (f := 15) (by decide) (fun _ _ _ => rfl) rfl (Or.inl rfl) mw_1193 dX9_readClause_110 (sd_aload_n (i := 0) rfl dX9_readClause_113 (sd_getR clsX9 (f := 16) (by decide) (fun _ _ _ => rfl) mw_1194 dX9_readClause_114 (sd_iload_n (i := 2) rfl dX9_readClause_117 (sd_iconst (v := 3) (by decide) dX9_readClause_118 (sd_iadd dX9_readClause_119 (sd_aload_n (i := 0) rfl dX9_readClause_120 (sd_getI clsX9 (f := 17) (by decide) (fun _ _ _ => rfl) mw_1195 dX9_readClause_121 (sd_iastore dX9_readClause_124 (sd_iload_n (i := 1) rfl dX9_readClause_125 (sd_iconst (v := 2) (by decide) dX9_readClause_126 (sd_icmp_ge (tgt := 135) (by decide) dX9_readClause_127 (Sd.go) (sd_aload_n (i := 0) rfl dX9_readClause_130 (sd_iconst (v := 0) (by decide) dX9_readClause_131 (sd_callV (Y' := YX9_readExpression) (mc' := 0) (ms' := 0) (n := 1) clsX9.1 mw_1482 mw_1484 mw_57 mw_108 mw_1485 rfl (okmX9_readExpression) (by decide) (Nat.le_refl _) (by decide) (by decide) dX9_readClause_132 (Sd.go)))))))))))))))))))))))))) (sd_aload_n (i := 0) rfl dX9_readClause_81 (sd_getR clsX9 (f := 16) (by decide) (fun _ _ _ => rfl) mw_1194 dX9_readClause_82 (sd_iload_n (i := 2) rfl dX9_readClause_85 (sd_iload_n (i := 3) rfl dX9_readClause_86 (sd_iadd dX9_readClause_87 (sd_iconst (v := 0) (by decide) dX9_readClause_88 (sd_iastore dX9_readClause_89 (sd_iinc (i := 3) (v := 1) (by decide) (by decide) dX9_readClause_90 (sd_goto (tgt := 75) (by decide) dX9_readClause_93 (Sd.go)))))))))))) : Sd l E YX9_readClause (d + 1) 0 0 Q 0 0 75 (bX9_readClause_75 l E d Q)) ls st h hB
def bX9_readClause_135 (l : Launch) (E : Ev) (d : Nat) (Q : Option Value → Hp → Prop) : Kt := k_aload 0 (k_getR 9 55 16 (k_iload 2 (k_push (.int 4) (k_iadd (k_aload 0 (k_getI 9 55 17 (k_iastore (k_aload 0 (k_getR 9 55 16 (k_iload 2 (k_push (.int 5) (k_iadd (k_aload 0 (k_getI 9 55 17 (k_iastore (k_aload 0 (k_getI 9 55 14 (k_if_ne (Go l E YX9_readClause (d + 1) 0 0 Q 0 0 185) (k_aload 0 (k_push (.long 294) (k_callV l E 9 55 YX9_isWord d 0 0 1 (k_if_eq (Go l E YX9_readClause (d + 1) 0 0 Q 0 0 185) (k_aload 0 (k_callV l E 9 55 YX9_next d 0 0 0 (k_aload 0 (k_push (.int 1) (k_callV l E 9 55 YX9_readExpression d 0 0 1 (Go l E YX9_readClause (d + 1) 0 0 Q 0 0 185))))))))))))))))))))))))))))
set_option maxRecDepth 100000 in
set_option maxHeartbeats 4000000 in
theorem gX9_readClause_135 {l : Launch} {E : Ev} {d : Nat} {Q : Option Value → Hp → Prop} {ls : Lv} {st : List Value} {h : Hp} (hB : bX9_readClause_135 l E d Q ls st h) : Go l E YX9_readClause (d + 1) 0 0 Q 0 0 135 ls st h :=
  (sd_aload_n (i := 0) rfl dX9_readClause_135 (sd_getR clsX9 (f := 16) (by decide) (fun _ _ _ => rfl) mw_1194 dX9_readClause_136 (sd_iload_n (i := 2) rfl dX9_readClause_139 (sd_iconst (v := 4) (by decide) dX9_readClause_140 (sd_iadd dX9_readClause_141 (sd_aload_n (i := 0) rfl dX9_readClause_142 (sd_getI clsX9 (f := 17) (by decide) (fun _ _ _ => rfl) mw_1195 dX9_readClause_143 (sd_iastore dX9_readClause_146 (sd_aload_n (i := 0) rfl dX9_readClause_147 (sd_getR clsX9 (f := 16) (by decide) (fun _ _ _ => rfl) mw_1194 dX9_readClause_148 (sd_iload_n (i := 2) rfl dX9_readClause_151 (sd_iconst (v := 5) (by decide) dX9_readClause_152 (sd_iadd dX9_readClause_153 (sd_aload_n (i := 0) rfl dX9_readClause_154 (sd_getI clsX9 (f := 17) (by decide) (fun _ _ _ => rfl) mw_1195 dX9_readClause_155 (sd_iastore dX9_readClause_158 (sd_aload_n (i := 0) rfl dX9_readClause_159 (sd_getI clsX9 (f := 14) (by decide) (fun _ _ _ => rfl) mw_1192 dX9_readClause_160 (sd_if_ne (tgt := 185) (by decide) dX9_readClause_163 (Sd.go) (sd_aload_n (i := 0) rfl dX9_readClause_166 (sd_ldc2 (v := 294) mw_1549 dX9_readClause_167 (sd_callV (Y' := YX9_isWord) (mc' := 0) (ms' := 0) (n := 1) clsX9.1 mw_1474 mw_1476 mw_55 mw_108 mw_1477 rfl (okmX9_isWord) (by decide) (Nat.le_refl _) (by decide) (by decide) dX9_readClause_170 (sd_if_eq (tgt := 185) (by decide) dX9_readClause_173 (Sd.go) (sd_aload_n (i := 0) rfl dX9_readClause_176 (sd_callV (Y' := YX9_next) (mc' := 0) (ms' := 0) (n := 0) clsX9.1 mw_1454 mw_1456 mw_53 mw_108 mw_1457 rfl (okmX9_next) (by decide) (Nat.le_refl _) (by decide) (by decide) dX9_readClause_177 (sd_aload_n (i := 0) rfl dX9_readClause_180 (sd_iconst (v := 1) (by decide) dX9_readClause_181 (sd_callV (Y' := YX9_readExpression) (mc' := 0) (ms' := 0) (n := 1) clsX9.1 mw_1482 mw_1484 mw_57 mw_108 mw_1485 rfl (okmX9_readExpression) (by decide) (Nat.le_refl _) (by decide) (by decide) dX9_readClause_182 (Sd.go)))))))))))))))))))))))))))) : Sd l E YX9_readClause (d + 1) 0 0 Q 0 0 135 (bX9_readClause_135 l E d Q)) ls st h hB
def bX9_readClause_185 (l : Launch) (E : Ev) (d : Nat) (Q : Option Value → Hp → Prop) : Kt := k_aload 0 (k_getR 9 55 16 (k_iload 2 (k_push (.int 6) (k_iadd (k_aload 0 (k_getI 9 55 17 (k_iastore (k_vret Q))))))))
set_option maxRecDepth 100000 in
set_option maxHeartbeats 4000000 in
theorem gX9_readClause_185 {l : Launch} {E : Ev} {d : Nat} {Q : Option Value → Hp → Prop} {ls : Lv} {st : List Value} {h : Hp} (hB : bX9_readClause_185 l E d Q ls st h) : Go l E YX9_readClause (d + 1) 0 0 Q 0 0 185 ls st h :=
  (sd_aload_n (i := 0) rfl dX9_readClause_185 (sd_getR clsX9 (f := 16) (by decide) (fun _ _ _ => rfl) mw_1194 dX9_readClause_186 (sd_iload_n (i := 2) rfl dX9_readClause_189 (sd_bipush (v := 6) (by decide) dX9_readClause_190 (sd_iadd dX9_readClause_192 (sd_aload_n (i := 0) rfl dX9_readClause_193 (sd_getI clsX9 (f := 17) (by decide) (fun _ _ _ => rfl) mw_1195 dX9_readClause_194 (sd_iastore dX9_readClause_197 (sd_vret rfl (by decide) (by decide) dX9_readClause_198)))))))) : Sd l E YX9_readClause (d + 1) 0 0 Q 0 0 185 (bX9_readClause_185 l E d Q)) ls st h hB
theorem eX9_readClause {l : Launch} {E : Ev} {d : Nat} {Q : Option Value → Hp → Prop} {h : Hp} {a0 : Nat} (hk : Go l E YX9_readClause d 0 0 Q 0 0 0 [some (.ref a0), none, none, none] [] h) : GoM l E YX9_readClause d 0 0 [.ref a0] h Q := GoM.of (by decide +kernel) rfl (by simp [entA, YX9_readClause]) hk
theorem dX9_law_0 : decode cX9_law 0 = .ok (.aload_n 0, 1) := by decide +kernel
theorem dX9_law_1 : decode cX9_law 1 = .ok (.iconst 0, 1) := by decide +kernel
theorem dX9_law_2 : decode cX9_law 2 = .ok (.putfield 123, 3) := by decide +kernel
theorem dX9_law_5 : decode cX9_law 5 = .ok (.aload_n 0, 1) := by decide +kernel
theorem dX9_law_6 : decode cX9_law 6 = .ok (.getfield 13, 3) := by decide +kernel
theorem dX9_law_9 : decode cX9_law 9 = .ok (.iconst 2, 1) := by decide +kernel
theorem dX9_law_10 : decode cX9_law 10 = .ok (.iaload, 1) := by decide +kernel
theorem dX9_law_11 : decode cX9_law 11 = .ok (.bipush 6, 2) := by decide +kernel
theorem dX9_law_13 : decode cX9_law 13 = .ok (.if_icmp .ne 15, 3) := by decide +kernel
theorem dX9_law_16 : decode cX9_law 16 = .ok (.aload_n 0, 1) := by decide +kernel
theorem dX9_law_17 : decode cX9_law 17 = .ok (.iconst 0, 1) := by decide +kernel
theorem dX9_law_18 : decode cX9_law 18 = .ok (.putfield 171, 3) := by decide +kernel
theorem dX9_law_21 : decode cX9_law 21 = .ok (.aload_n 0, 1) := by decide +kernel
theorem dX9_law_22 : decode cX9_law 22 = .ok (.bipush (-5), 2) := by decide +kernel
theorem dX9_law_24 : decode cX9_law 24 = .ok (.invokevirtual 137, 3) := by decide +kernel
theorem dX9_law_27 : decode cX9_law 27 = .ok (.ireturn, 1) := by decide +kernel
theorem dX9_law_28 : decode cX9_law 28 = .ok (.aload_n 0, 1) := by decide +kernel
theorem dX9_law_29 : decode cX9_law 29 = .ok (.invokevirtual 310, 3) := by decide +kernel
theorem dX9_law_32 : decode cX9_law 32 = .ok (.aload_n 0, 1) := by decide +kernel
theorem dX9_law_33 : decode cX9_law 33 = .ok (.iconst 0, 1) := by decide +kernel
theorem dX9_law_34 : decode cX9_law 34 = .ok (.putfield 302, 3) := by decide +kernel
theorem dX9_law_37 : decode cX9_law 37 = .ok (.aload_n 0, 1) := by decide +kernel
theorem dX9_law_38 : decode cX9_law 38 = .ok (.iconst 0, 1) := by decide +kernel
theorem dX9_law_39 : decode cX9_law 39 = .ok (.putfield 223, 3) := by decide +kernel
theorem dX9_law_42 : decode cX9_law 42 = .ok (.aload_n 0, 1) := by decide +kernel
theorem dX9_law_43 : decode cX9_law 43 = .ok (.iconst 0, 1) := by decide +kernel
theorem dX9_law_44 : decode cX9_law 44 = .ok (.putfield 254, 3) := by decide +kernel
theorem dX9_law_47 : decode cX9_law 47 = .ok (.aload_n 0, 1) := by decide +kernel
theorem dX9_law_48 : decode cX9_law 48 = .ok (.invokevirtual 313, 3) := by decide +kernel
theorem dX9_law_51 : decode cX9_law 51 = .ok (.aload_n 0, 1) := by decide +kernel
theorem dX9_law_52 : decode cX9_law 52 = .ok (.getfield 184, 3) := by decide +kernel
theorem dX9_law_55 : decode cX9_law 55 = .ok (.ifCond .ne 23, 3) := by decide +kernel
theorem dX9_law_58 : decode cX9_law 58 = .ok (.aload_n 0, 1) := by decide +kernel
theorem dX9_law_59 : decode cX9_law 59 = .ok (.bipush 59, 2) := by decide +kernel
theorem dX9_law_61 : decode cX9_law 61 = .ok (.invokevirtual 257, 3) := by decide +kernel
theorem dX9_law_64 : decode cX9_law 64 = .ok (.ifCond .eq 14, 3) := by decide +kernel
theorem dX9_law_67 : decode cX9_law 67 = .ok (.aload_n 0, 1) := by decide +kernel
theorem dX9_law_68 : decode cX9_law 68 = .ok (.invokevirtual 188, 3) := by decide +kernel
theorem dX9_law_71 : decode cX9_law 71 = .ok (.aload_n 0, 1) := by decide +kernel
theorem dX9_law_72 : decode cX9_law 72 = .ok (.invokevirtual 313, 3) := by decide +kernel
theorem dX9_law_75 : decode cX9_law 75 = .ok (.goto (-24), 3) := by decide +kernel
theorem dX9_law_78 : decode cX9_law 78 = .ok (.aload_n 0, 1) := by decide +kernel
theorem dX9_law_79 : decode cX9_law 79 = .ok (.getfield 184, 3) := by decide +kernel
theorem dX9_law_82 : decode cX9_law 82 = .ok (.ifCond .ne 15, 3) := by decide +kernel
theorem dX9_law_85 : decode cX9_law 85 = .ok (.aload_n 0, 1) := by decide +kernel
theorem dX9_law_86 : decode cX9_law 86 = .ok (.getfield 204, 3) := by decide +kernel
theorem dX9_law_89 : decode cX9_law 89 = .ok (.ifCond .eq 8, 3) := by decide +kernel
theorem dX9_law_92 : decode cX9_law 92 = .ok (.aload_n 0, 1) := by decide +kernel
theorem dX9_law_93 : decode cX9_law 93 = .ok (.iconst 0, 1) := by decide +kernel
theorem dX9_law_94 : decode cX9_law 94 = .ok (.invokevirtual 219, 3) := by decide +kernel
theorem dX9_law_97 : decode cX9_law 97 = .ok (.aload_n 0, 1) := by decide +kernel
theorem dX9_law_98 : decode cX9_law 98 = .ok (.iconst 0, 1) := by decide +kernel
theorem dX9_law_99 : decode cX9_law 99 = .ok (.putfield 171, 3) := by decide +kernel
theorem dX9_law_102 : decode cX9_law 102 = .ok (.aload_n 0, 1) := by decide +kernel
theorem dX9_law_103 : decode cX9_law 103 = .ok (.getfield 184, 3) := by decide +kernel
theorem dX9_law_106 : decode cX9_law 106 = .ok (.ifCond .eq 10, 3) := by decide +kernel
theorem dX9_law_109 : decode cX9_law 109 = .ok (.aload_n 0, 1) := by decide +kernel
theorem dX9_law_110 : decode cX9_law 110 = .ok (.bipush (-6), 2) := by decide +kernel
theorem dX9_law_112 : decode cX9_law 112 = .ok (.invokevirtual 137, 3) := by decide +kernel
theorem dX9_law_115 : decode cX9_law 115 = .ok (.ireturn, 1) := by decide +kernel
theorem dX9_law_116 : decode cX9_law 116 = .ok (.sipush 180, 3) := by decide +kernel
theorem dX9_law_119 : decode cX9_law 119 = .ok (.sipush 900, 3) := by decide +kernel
theorem dX9_law_122 : decode cX9_law 122 = .ok (.aload_n 0, 1) := by decide +kernel
theorem dX9_law_123 : decode cX9_law 123 = .ok (.getfield 13, 3) := by decide +kernel
theorem dX9_law_126 : decode cX9_law 126 = .ok (.iconst 2, 1) := by decide +kernel
theorem dX9_law_127 : decode cX9_law 127 = .ok (.iaload, 1) := by decide +kernel
theorem dX9_law_128 : decode cX9_law 128 = .ok (.imul, 1) := by decide +kernel
theorem dX9_law_129 : decode cX9_law 129 = .ok (.iadd, 1) := by decide +kernel
theorem dX9_law_130 : decode cX9_law 130 = .ok (.istore_n 1, 1) := by decide +kernel
theorem dX9_law_131 : decode cX9_law 131 = .ok (.aload_n 0, 1) := by decide +kernel
theorem dX9_law_132 : decode cX9_law 132 = .ok (.getfield 13, 3) := by decide +kernel
theorem dX9_law_135 : decode cX9_law 135 = .ok (.iload_n 1, 1) := by decide +kernel
theorem dX9_law_136 : decode cX9_law 136 = .ok (.iconst 1, 1) := by decide +kernel
theorem dX9_law_137 : decode cX9_law 137 = .ok (.iadd, 1) := by decide +kernel
theorem dX9_law_138 : decode cX9_law 138 = .ok (.aload_n 0, 1) := by decide +kernel
theorem dX9_law_139 : decode cX9_law 139 = .ok (.getfield 302, 3) := by decide +kernel
theorem dX9_law_142 : decode cX9_law 142 = .ok (.iastore, 1) := by decide +kernel
theorem dX9_law_143 : decode cX9_law 143 = .ok (.iconst 0, 1) := by decide +kernel
theorem dX9_law_144 : decode cX9_law 144 = .ok (.istore_n 2, 1) := by decide +kernel
theorem dX9_law_145 : decode cX9_law 145 = .ok (.iload_n 2, 1) := by decide +kernel
theorem dX9_law_146 : decode cX9_law 146 = .ok (.bipush 8, 2) := by decide +kernel
theorem dX9_law_148 : decode cX9_law 148 = .ok (.aload_n 0, 1) := by decide +kernel
theorem dX9_law_149 : decode cX9_law 149 = .ok (.getfield 302, 3) := by decide +kernel
theorem dX9_law_152 : decode cX9_law 152 = .ok (.imul, 1) := by decide +kernel
theorem dX9_law_153 : decode cX9_law 153 = .ok (.if_icmp .ge 25, 3) := by decide +kernel
theorem dX9_law_156 : decode cX9_law 156 = .ok (.aload_n 0, 1) := by decide +kernel
theorem dX9_law_157 : decode cX9_law 157 = .ok (.getfield 13, 3) := by decide +kernel
theorem dX9_law_160 : decode cX9_law 160 = .ok (.iload_n 1, 1) := by decide +kernel
theorem dX9_law_161 : decode cX9_law 161 = .ok (.iconst 2, 1) := by decide +kernel
theorem dX9_law_162 : decode cX9_law 162 = .ok (.iadd, 1) := by decide +kernel
theorem dX9_law_163 : decode cX9_law 163 = .ok (.iload_n 2, 1) := by decide +kernel
theorem dX9_law_164 : decode cX9_law 164 = .ok (.iadd, 1) := by decide +kernel
theorem dX9_law_165 : decode cX9_law 165 = .ok (.aload_n 0, 1) := by decide +kernel
theorem dX9_law_166 : decode cX9_law 166 = .ok (.getfield 30, 3) := by decide +kernel
theorem dX9_law_169 : decode cX9_law 169 = .ok (.iload_n 2, 1) := by decide +kernel
theorem dX9_law_170 : decode cX9_law 170 = .ok (.iaload, 1) := by decide +kernel
theorem dX9_law_171 : decode cX9_law 171 = .ok (.iastore, 1) := by decide +kernel
theorem dX9_law_172 : decode cX9_law 172 = .ok (.iinc 2 1, 3) := by decide +kernel
theorem dX9_law_175 : decode cX9_law 175 = .ok (.goto (-30), 3) := by decide +kernel
theorem dX9_law_178 : decode cX9_law 178 = .ok (.iconst 0, 1) := by decide +kernel
theorem dX9_law_179 : decode cX9_law 179 = .ok (.istore_n 2, 1) := by decide +kernel
theorem dX9_law_180 : decode cX9_law 180 = .ok (.iload_n 2, 1) := by decide +kernel
theorem dX9_law_181 : decode cX9_law 181 = .ok (.aload_n 0, 1) := by decide +kernel
theorem dX9_law_182 : decode cX9_law 182 = .ok (.getfield 223, 3) := by decide +kernel
theorem dX9_law_185 : decode cX9_law 185 = .ok (.if_icmp .ge 49, 3) := by decide +kernel
theorem dX9_law_188 : decode cX9_law 188 = .ok (.aload_n 0, 1) := by decide +kernel
theorem dX9_law_189 : decode cX9_law 189 = .ok (.getfield 13, 3) := by decide +kernel
theorem dX9_law_192 : decode cX9_law 192 = .ok (.iload_n 1, 1) := by decide +kernel
theorem dX9_law_193 : decode cX9_law 193 = .ok (.bipush 98, 2) := by decide +kernel
theorem dX9_law_195 : decode cX9_law 195 = .ok (.iadd, 1) := by decide +kernel
theorem dX9_law_196 : decode cX9_law 196 = .ok (.iconst 2, 1) := by decide +kernel
theorem dX9_law_197 : decode cX9_law 197 = .ok (.iload_n 2, 1) := by decide +kernel
theorem dX9_law_198 : decode cX9_law 198 = .ok (.imul, 1) := by decide +kernel
theorem dX9_law_199 : decode cX9_law 199 = .ok (.iadd, 1) := by decide +kernel
theorem dX9_law_200 : decode cX9_law 200 = .ok (.aload_n 0, 1) := by decide +kernel
theorem dX9_law_201 : decode cX9_law 201 = .ok (.getfield 33, 3) := by decide +kernel
theorem dX9_law_204 : decode cX9_law 204 = .ok (.iload_n 2, 1) := by decide +kernel
theorem dX9_law_205 : decode cX9_law 205 = .ok (.iaload, 1) := by decide +kernel
theorem dX9_law_206 : decode cX9_law 206 = .ok (.iastore, 1) := by decide +kernel
theorem dX9_law_207 : decode cX9_law 207 = .ok (.aload_n 0, 1) := by decide +kernel
theorem dX9_law_208 : decode cX9_law 208 = .ok (.getfield 13, 3) := by decide +kernel
theorem dX9_law_211 : decode cX9_law 211 = .ok (.iload_n 1, 1) := by decide +kernel
theorem dX9_law_212 : decode cX9_law 212 = .ok (.bipush 98, 2) := by decide +kernel
theorem dX9_law_214 : decode cX9_law 214 = .ok (.iadd, 1) := by decide +kernel
theorem dX9_law_215 : decode cX9_law 215 = .ok (.iconst 2, 1) := by decide +kernel
theorem dX9_law_216 : decode cX9_law 216 = .ok (.iload_n 2, 1) := by decide +kernel
theorem dX9_law_217 : decode cX9_law 217 = .ok (.imul, 1) := by decide +kernel
theorem dX9_law_218 : decode cX9_law 218 = .ok (.iadd, 1) := by decide +kernel
theorem dX9_law_219 : decode cX9_law 219 = .ok (.iconst 1, 1) := by decide +kernel
theorem dX9_law_220 : decode cX9_law 220 = .ok (.iadd, 1) := by decide +kernel
theorem dX9_law_221 : decode cX9_law 221 = .ok (.aload_n 0, 1) := by decide +kernel
theorem dX9_law_222 : decode cX9_law 222 = .ok (.getfield 36, 3) := by decide +kernel
theorem dX9_law_225 : decode cX9_law 225 = .ok (.iload_n 2, 1) := by decide +kernel
theorem dX9_law_226 : decode cX9_law 226 = .ok (.iaload, 1) := by decide +kernel
theorem dX9_law_227 : decode cX9_law 227 = .ok (.iastore, 1) := by decide +kernel
theorem dX9_law_228 : decode cX9_law 228 = .ok (.iinc 2 1, 3) := by decide +kernel
theorem dX9_law_231 : decode cX9_law 231 = .ok (.goto (-51), 3) := by decide +kernel
theorem dX9_law_234 : decode cX9_law 234 = .ok (.aload_n 0, 1) := by decide +kernel
theorem dX9_law_235 : decode cX9_law 235 = .ok (.getfield 13, 3) := by decide +kernel
theorem dX9_law_238 : decode cX9_law 238 = .ok (.iconst 2, 1) := by decide +kernel
theorem dX9_law_239 : decode cX9_law 239 = .ok (.dup2, 1) := by decide +kernel
theorem dX9_law_240 : decode cX9_law 240 = .ok (.iaload, 1) := by decide +kernel
theorem dX9_law_241 : decode cX9_law 241 = .ok (.iconst 1, 1) := by decide +kernel
theorem dX9_law_242 : decode cX9_law 242 = .ok (.iadd, 1) := by decide +kernel
theorem dX9_law_243 : decode cX9_law 243 = .ok (.iastore, 1) := by decide +kernel
theorem dX9_law_244 : decode cX9_law 244 = .ok (.aload_n 0, 1) := by decide +kernel
theorem dX9_law_245 : decode cX9_law 245 = .ok (.aload_n 0, 1) := by decide +kernel
theorem dX9_law_246 : decode cX9_law 246 = .ok (.getfield 13, 3) := by decide +kernel
theorem dX9_law_249 : decode cX9_law 249 = .ok (.iconst 2, 1) := by decide +kernel
theorem dX9_law_250 : decode cX9_law 250 = .ok (.iaload, 1) := by decide +kernel
theorem dX9_law_251 : decode cX9_law 251 = .ok (.iconst 1, 1) := by decide +kernel
theorem dX9_law_252 : decode cX9_law 252 = .ok (.isub, 1) := by decide +kernel
theorem dX9_law_253 : decode cX9_law 253 = .ok (.invokevirtual 137, 3) := by decide +kernel
theorem dX9_law_256 : decode cX9_law 256 = .ok (.ireturn, 1) := by decide +kernel
def bX9_law_0 (l : Launch) (E : Ev) (d : Nat) (Q : Option Value → Hp → Prop) : Kt := k_aload 0 (k_push (.int 0) (k_putI 9 55 0 (k_aload 0 (k_getR 9 55 3 (k_push (.int 2) (k_iaload (k_push (.int 6) (k_icmp_ne (k_aload 0 (k_callV l E 9 55 YX9_begin d 0 0 0 (k_aload 0 (k_push (.int 0) (k_putI 9 55 15 (k_aload 0 (k_push (.int 0) (k_putI 9 55 17 (k_aload 0 (k_push (.int 0) (k_putI 9 55 20 (k_aload 0 (k_callV l E 9 55 YX9_readClause d 0 0 0 (Go l E YX9_law (d + 1) 0 0 Q 0 0 51)))))))))))))) (k_aload 0 (k_push (.int 0) (k_putI 9 55 8 (k_aload 0 (k_push (.int (-5)) (k_callV l E 9 55 YX9_tell d 0 0 1 (k_iret .int Q)))))))))))))))
set_option maxRecDepth 100000 in
set_option maxHeartbeats 4000000 in
theorem gX9_law_0 {l : Launch} {E : Ev} {d : Nat} {Q : Option Value → Hp → Prop} {ls : Lv} {st : List Value} {h : Hp} (hB : bX9_law_0 l E d Q ls st h) : Go l E YX9_law (d + 1) 0 0 Q 0 0 0 ls st h :=
  (sd_aload_n (i := 0) rfl dX9_law_0 (sd_iconst (v := 0) (by decide) dX9_law_1 (sd_putI clsX9 (f := 0) (by decide) (fun _ _ _ => rfl) rfl (Or.inl rfl) mw_1178 dX9_law_2 (sd_aload_n (i := 0) rfl dX9_law_5 (sd_getR clsX9 (f := 3) (by decide) (fun _ _ _ => rfl) mw_1181 dX9_law_6 (sd_iconst (v := 2) (by decide) dX9_law_9 (sd_iaload dX9_law_10 (sd_bipush (v := 6) (by decide) dX9_law_11 (sd_icmp_ne (tgt := 28) (by decide) dX9_law_13 (sd_aload_n (i := 0) rfl dX9_law_28 (sd_callV (Y' := YX9_begin) (mc' := 0) (ms' := 0) (n := 0) clsX9.1 mw_1450 mw_1452 mw_52 mw_108 mw_1453 rfl (okmX9_begin) (by decide) (Nat.le_refl _) (by decide) (by decide) dX9_law_29 (sd_aload_n (i := 0) rfl dX9_law_32 (sd_iconst (v := 0) (by decide) dX9_law_33 (sd_putI clsX9 (f := 15) (by decide) (fun _ _ _ => rfl) rfl (Or.inl rfl) mw_1193 dX9_law_34 (sd_aload_n (i := 0) rfl dX9_law_37 (sd_iconst (v := 0) (by decide) dX9_law_38 (sd_putI clsX9 (f := 17) (by decide) (fun _ _ _ => rfl) rfl (Or.inl rfl) mw_1195 dX9_law_39 (sd_aload_n (i := 0) rfl dX9_law_42 (sd_iconst (v := 0) (by decide) dX9_law_43 (sd_putI clsX9 (f := 20) (by decide) (fun _ _ _ => rfl) rfl (Or.inl rfl) mw_1198 dX9_law_44 (sd_aload_n (i := 0) rfl dX9_law_47 (sd_callV (Y' := YX9_readClause) (mc' := 0) (ms' := 0) (n := 0) clsX9.1 mw_1470 mw_1472 mw_54 mw_108 mw_1473 rfl (okmX9_readClause) (by decide) (Nat.le_refl _) (by decide) (by decide) dX9_law_48 (Sd.go)))))))))))))) (sd_aload_n (i := 0) rfl dX9_law_16 (sd_iconst (v := 0) (by decide) dX9_law_17 (sd_putI clsX9 (f := 8) (by decide) (fun _ _ _ => rfl) rfl (Or.inl rfl) mw_1186 dX9_law_18 (sd_aload_n (i := 0) rfl dX9_law_21 (sd_bipush (v := (-5)) (by decide) dX9_law_22 (sd_callV (Y' := YX9_tell) (mc' := 0) (ms' := 0) (n := 1) clsX9.1 mw_1351 mw_1353 mw_45 mw_108 mw_1354 rfl (okmX9_tell) (by decide) (Nat.le_refl _) (by decide) (by decide) dX9_law_24 (sd_iret (ty := .int) rfl (by decide) (by decide) dX9_law_27))))))))))))))) : Sd l E YX9_law (d + 1) 0 0 Q 0 0 0 (bX9_law_0 l E d Q)) ls st h hB
def bX9_law_51 (l : Launch) (E : Ev) (d : Nat) (Q : Option Value → Hp → Prop) : Kt := k_aload 0 (k_getI 9 55 14 (k_if_ne (Go l E YX9_law (d + 1) 0 0 Q 0 0 78) (k_aload 0 (k_push (.int 59) (k_callV l E 9 55 YX9_isSign d 0 0 1 (k_if_eq (Go l E YX9_law (d + 1) 0 0 Q 0 0 78) (k_aload 0 (k_callV l E 9 55 YX9_next d 0 0 0 (k_aload 0 (k_callV l E 9 55 YX9_readClause d 0 0 0 (Go l E YX9_law (d + 1) 0 0 Q 0 0 51)))))))))))
set_option maxRecDepth 100000 in
set_option maxHeartbeats 4000000 in
theorem gX9_law_51 {l : Launch} {E : Ev} {d : Nat} {Q : Option Value → Hp → Prop} {ls : Lv} {st : List Value} {h : Hp} (hB : bX9_law_51 l E d Q ls st h) : Go l E YX9_law (d + 1) 0 0 Q 0 0 51 ls st h :=
  (sd_aload_n (i := 0) rfl dX9_law_51 (sd_getI clsX9 (f := 14) (by decide) (fun _ _ _ => rfl) mw_1192 dX9_law_52 (sd_if_ne (tgt := 78) (by decide) dX9_law_55 (Sd.go) (sd_aload_n (i := 0) rfl dX9_law_58 (sd_bipush (v := 59) (by decide) dX9_law_59 (sd_callV (Y' := YX9_isSign) (mc' := 0) (ms' := 0) (n := 1) clsX9.1 mw_1495 mw_1497 mw_60 mw_108 mw_1498 rfl (okmX9_isSign) (by decide) (Nat.le_refl _) (by decide) (by decide) dX9_law_61 (sd_if_eq (tgt := 78) (by decide) dX9_law_64 (Sd.go) (sd_aload_n (i := 0) rfl dX9_law_67 (sd_callV (Y' := YX9_next) (mc' := 0) (ms' := 0) (n := 0) clsX9.1 mw_1454 mw_1456 mw_53 mw_108 mw_1457 rfl (okmX9_next) (by decide) (Nat.le_refl _) (by decide) (by decide) dX9_law_68 (sd_aload_n (i := 0) rfl dX9_law_71 (sd_callV (Y' := YX9_readClause) (mc' := 0) (ms' := 0) (n := 0) clsX9.1 mw_1470 mw_1472 mw_54 mw_108 mw_1473 rfl (okmX9_readClause) (by decide) (Nat.le_refl _) (by decide) (by decide) dX9_law_72 (sd_goto (tgt := 51) (by decide) dX9_law_75 (Sd.go)))))))))))) : Sd l E YX9_law (d + 1) 0 0 Q 0 0 51 (bX9_law_51 l E d Q)) ls st h hB
def bX9_law_78 (l : Launch) (E : Ev) (d : Nat) (Q : Option Value → Hp → Prop) : Kt := k_aload 0 (k_getI 9 55 14 (k_if_ne (Go l E YX9_law (d + 1) 0 0 Q 0 0 97) (k_aload 0 (k_getI 9 55 11 (k_if_eq (Go l E YX9_law (d + 1) 0 0 Q 0 0 97) (k_aload 0 (k_push (.int 0) (k_callV l E 9 55 YX9_must d 0 0 1 (Go l E YX9_law (d + 1) 0 0 Q 0 0 97)))))))))
set_option maxRecDepth 100000 in
set_option maxHeartbeats 4000000 in
theorem gX9_law_78 {l : Launch} {E : Ev} {d : Nat} {Q : Option Value → Hp → Prop} {ls : Lv} {st : List Value} {h : Hp} (hB : bX9_law_78 l E d Q ls st h) : Go l E YX9_law (d + 1) 0 0 Q 0 0 78 ls st h :=
  (sd_aload_n (i := 0) rfl dX9_law_78 (sd_getI clsX9 (f := 14) (by decide) (fun _ _ _ => rfl) mw_1192 dX9_law_79 (sd_if_ne (tgt := 97) (by decide) dX9_law_82 (Sd.go) (sd_aload_n (i := 0) rfl dX9_law_85 (sd_getI clsX9 (f := 11) (by decide) (fun _ _ _ => rfl) mw_1189 dX9_law_86 (sd_if_eq (tgt := 97) (by decide) dX9_law_89 (Sd.go) (sd_aload_n (i := 0) rfl dX9_law_92 (sd_iconst (v := 0) (by decide) dX9_law_93 (sd_callV (Y' := YX9_must) (mc' := 0) (ms' := 0) (n := 1) clsX9.1 mw_1478 mw_1480 mw_56 mw_108 mw_1481 rfl (okmX9_must) (by decide) (Nat.le_refl _) (by decide) (by decide) dX9_law_94 (Sd.go))))))))) : Sd l E YX9_law (d + 1) 0 0 Q 0 0 78 (bX9_law_78 l E d Q)) ls st h hB
def bX9_law_97 (l : Launch) (E : Ev) (d : Nat) (Q : Option Value → Hp → Prop) : Kt := k_aload 0 (k_push (.int 0) (k_putI 9 55 8 (k_aload 0 (k_getI 9 55 14 (k_if_eq (k_push (.int 180) (k_push (.int 900) (k_aload 0 (k_getR 9 55 3 (k_push (.int 2) (k_iaload (k_imul (k_iadd (k_istore 1 (k_aload 0 (k_getR 9 55 3 (k_iload 1 (k_push (.int 1) (k_iadd (k_aload 0 (k_getI 9 55 15 (k_iastore (k_push (.int 0) (k_istore 2 (Go l E YX9_law (d + 1) 0 0 Q 0 0 145)))))))))))))))))))) (k_aload 0 (k_push (.int (-6)) (k_callV l E 9 55 YX9_tell d 0 0 1 (k_iret .int Q)))))))))
set_option maxRecDepth 100000 in
set_option maxHeartbeats 4000000 in
theorem gX9_law_97 {l : Launch} {E : Ev} {d : Nat} {Q : Option Value → Hp → Prop} {ls : Lv} {st : List Value} {h : Hp} (hB : bX9_law_97 l E d Q ls st h) : Go l E YX9_law (d + 1) 0 0 Q 0 0 97 ls st h :=
  (sd_aload_n (i := 0) rfl dX9_law_97 (sd_iconst (v := 0) (by decide) dX9_law_98 (sd_putI clsX9 (f := 8) (by decide) (fun _ _ _ => rfl) rfl (Or.inl rfl) mw_1186 dX9_law_99 (sd_aload_n (i := 0) rfl dX9_law_102 (sd_getI clsX9 (f := 14) (by decide) (fun _ _ _ => rfl) mw_1192 dX9_law_103 (sd_if_eq (tgt := 116) (by decide) dX9_law_106 (sd_sipush (v := 180) (by decide) dX9_law_116 (sd_sipush (v := 900) (by decide) dX9_law_119 (sd_aload_n (i := 0) rfl dX9_law_122 (sd_getR clsX9 (f := 3) (by decide) (fun _ _ _ => rfl) mw_1181 dX9_law_123 (sd_iconst (v := 2) (by decide) dX9_law_126 (sd_iaload dX9_law_127 (sd_imul dX9_law_128 (sd_iadd dX9_law_129 (sd_istore_n (i := 1) rfl (by decide) dX9_law_130 (sd_aload_n (i := 0) rfl dX9_law_131 (sd_getR clsX9 (f := 3) (by decide) (fun _ _ _ => rfl) mw_1181 dX9_law_132 (sd_iload_n (i := 1) rfl dX9_law_135 (sd_iconst (v := 1) (by decide) dX9_law_136 (sd_iadd dX9_law_137 (sd_aload_n (i := 0) rfl dX9_law_138 (sd_getI clsX9 (f := 15) (by decide) (fun _ _ _ => rfl) mw_1193 dX9_law_139 (sd_iastore dX9_law_142 (sd_iconst (v := 0) (by decide) dX9_law_143 (sd_istore_n (i := 2) rfl (by decide) dX9_law_144 (Sd.go)))))))))))))))))))) (sd_aload_n (i := 0) rfl dX9_law_109 (sd_bipush (v := (-6)) (by decide) dX9_law_110 (sd_callV (Y' := YX9_tell) (mc' := 0) (ms' := 0) (n := 1) clsX9.1 mw_1351 mw_1353 mw_45 mw_108 mw_1354 rfl (okmX9_tell) (by decide) (Nat.le_refl _) (by decide) (by decide) dX9_law_112 (sd_iret (ty := .int) rfl (by decide) (by decide) dX9_law_115))))))))) : Sd l E YX9_law (d + 1) 0 0 Q 0 0 97 (bX9_law_97 l E d Q)) ls st h hB
def bX9_law_145 (l : Launch) (E : Ev) (d : Nat) (Q : Option Value → Hp → Prop) : Kt := k_iload 2 (k_push (.int 8) (k_aload 0 (k_getI 9 55 15 (k_imul (k_icmp_ge (k_push (.int 0) (k_istore 2 (Go l E YX9_law (d + 1) 0 0 Q 0 0 180))) (k_aload 0 (k_getR 9 55 3 (k_iload 1 (k_push (.int 2) (k_iadd (k_iload 2 (k_iadd (k_aload 0 (k_getR 9 55 16 (k_iload 2 (k_iaload (k_iastore (k_iinc 2 1 (Go l E YX9_law (d + 1) 0 0 Q 0 0 145)))))))))))))))))))
set_option maxRecDepth 100000 in
set_option maxHeartbeats 4000000 in
theorem gX9_law_145 {l : Launch} {E : Ev} {d : Nat} {Q : Option Value → Hp → Prop} {ls : Lv} {st : List Value} {h : Hp} (hB : bX9_law_145 l E d Q ls st h) : Go l E YX9_law (d + 1) 0 0 Q 0 0 145 ls st h :=
  (sd_iload_n (i := 2) rfl dX9_law_145 (sd_bipush (v := 8) (by decide) dX9_law_146 (sd_aload_n (i := 0) rfl dX9_law_148 (sd_getI clsX9 (f := 15) (by decide) (fun _ _ _ => rfl) mw_1193 dX9_law_149 (sd_imul dX9_law_152 (sd_icmp_ge (tgt := 178) (by decide) dX9_law_153 (sd_iconst (v := 0) (by decide) dX9_law_178 (sd_istore_n (i := 2) rfl (by decide) dX9_law_179 (Sd.go))) (sd_aload_n (i := 0) rfl dX9_law_156 (sd_getR clsX9 (f := 3) (by decide) (fun _ _ _ => rfl) mw_1181 dX9_law_157 (sd_iload_n (i := 1) rfl dX9_law_160 (sd_iconst (v := 2) (by decide) dX9_law_161 (sd_iadd dX9_law_162 (sd_iload_n (i := 2) rfl dX9_law_163 (sd_iadd dX9_law_164 (sd_aload_n (i := 0) rfl dX9_law_165 (sd_getR clsX9 (f := 16) (by decide) (fun _ _ _ => rfl) mw_1194 dX9_law_166 (sd_iload_n (i := 2) rfl dX9_law_169 (sd_iaload dX9_law_170 (sd_iastore dX9_law_171 (sd_iinc (i := 2) (v := 1) (by decide) (by decide) dX9_law_172 (sd_goto (tgt := 145) (by decide) dX9_law_175 (Sd.go)))))))))))))))))))) : Sd l E YX9_law (d + 1) 0 0 Q 0 0 145 (bX9_law_145 l E d Q)) ls st h hB
def bX9_law_180 (l : Launch) (E : Ev) (d : Nat) (Q : Option Value → Hp → Prop) : Kt := k_iload 2 (k_aload 0 (k_getI 9 55 17 (k_icmp_ge (k_aload 0 (k_getR 9 55 3 (k_push (.int 2) (k_dup2 (k_iaload (k_push (.int 1) (k_iadd (k_iastore (k_aload 0 (k_aload 0 (k_getR 9 55 3 (k_push (.int 2) (k_iaload (k_push (.int 1) (k_isub (k_callV l E 9 55 YX9_tell d 0 0 1 (k_iret .int Q))))))))))))))))) (k_aload 0 (k_getR 9 55 3 (k_iload 1 (k_push (.int 98) (k_iadd (k_push (.int 2) (k_iload 2 (k_imul (k_iadd (k_aload 0 (k_getR 9 55 18 (k_iload 2 (k_iaload (k_iastore (k_aload 0 (k_getR 9 55 3 (k_iload 1 (k_push (.int 98) (k_iadd (k_push (.int 2) (k_iload 2 (k_imul (k_iadd (k_push (.int 1) (k_iadd (k_aload 0 (k_getR 9 55 19 (k_iload 2 (k_iaload (k_iastore (k_iinc 2 1 (Go l E YX9_law (d + 1) 0 0 Q 0 0 180)))))))))))))))))))))))))))))))))))
set_option maxRecDepth 100000 in
set_option maxHeartbeats 4000000 in
theorem gX9_law_180 {l : Launch} {E : Ev} {d : Nat} {Q : Option Value → Hp → Prop} {ls : Lv} {st : List Value} {h : Hp} (hB : bX9_law_180 l E d Q ls st h) : Go l E YX9_law (d + 1) 0 0 Q 0 0 180 ls st h :=
  (sd_iload_n (i := 2) rfl dX9_law_180 (sd_aload_n (i := 0) rfl dX9_law_181 (sd_getI clsX9 (f := 17) (by decide) (fun _ _ _ => rfl) mw_1195 dX9_law_182 (sd_icmp_ge (tgt := 234) (by decide) dX9_law_185 (sd_aload_n (i := 0) rfl dX9_law_234 (sd_getR clsX9 (f := 3) (by decide) (fun _ _ _ => rfl) mw_1181 dX9_law_235 (sd_iconst (v := 2) (by decide) dX9_law_238 (sd_dup2 dX9_law_239 (sd_iaload dX9_law_240 (sd_iconst (v := 1) (by decide) dX9_law_241 (sd_iadd dX9_law_242 (sd_iastore dX9_law_243 (sd_aload_n (i := 0) rfl dX9_law_244 (sd_aload_n (i := 0) rfl dX9_law_245 (sd_getR clsX9 (f := 3) (by decide) (fun _ _ _ => rfl) mw_1181 dX9_law_246 (sd_iconst (v := 2) (by decide) dX9_law_249 (sd_iaload dX9_law_250 (sd_iconst (v := 1) (by decide) dX9_law_251 (sd_isub dX9_law_252 (sd_callV (Y' := YX9_tell) (mc' := 0) (ms' := 0) (n := 1) clsX9.1 mw_1351 mw_1353 mw_45 mw_108 mw_1354 rfl (okmX9_tell) (by decide) (Nat.le_refl _) (by decide) (by decide) dX9_law_253 (sd_iret (ty := .int) rfl (by decide) (by decide) dX9_law_256))))))))))))))))) (sd_aload_n (i := 0) rfl dX9_law_188 (sd_getR clsX9 (f := 3) (by decide) (fun _ _ _ => rfl) mw_1181 dX9_law_189 (sd_iload_n (i := 1) rfl dX9_law_192 (sd_bipush (v := 98) (by decide) dX9_law_193 (sd_iadd dX9_law_195 (sd_iconst (v := 2) (by decide) dX9_law_196 (sd_iload_n (i := 2) rfl dX9_law_197 (sd_imul dX9_law_198 (sd_iadd dX9_law_199 (sd_aload_n (i := 0) rfl dX9_law_200 (sd_getR clsX9 (f := 18) (by decide) (fun _ _ _ => rfl) mw_1196 dX9_law_201 (sd_iload_n (i := 2) rfl dX9_law_204 (sd_iaload dX9_law_205 (sd_iastore dX9_law_206 (sd_aload_n (i := 0) rfl dX9_law_207 (sd_getR clsX9 (f := 3) (by decide) (fun _ _ _ => rfl) mw_1181 dX9_law_208 (sd_iload_n (i := 1) rfl dX9_law_211 (sd_bipush (v := 98) (by decide) dX9_law_212 (sd_iadd dX9_law_214 (sd_iconst (v := 2) (by decide) dX9_law_215 (sd_iload_n (i := 2) rfl dX9_law_216 (sd_imul dX9_law_217 (sd_iadd dX9_law_218 (sd_iconst (v := 1) (by decide) dX9_law_219 (sd_iadd dX9_law_220 (sd_aload_n (i := 0) rfl dX9_law_221 (sd_getR clsX9 (f := 19) (by decide) (fun _ _ _ => rfl) mw_1197 dX9_law_222 (sd_iload_n (i := 2) rfl dX9_law_225 (sd_iaload dX9_law_226 (sd_iastore dX9_law_227 (sd_iinc (i := 2) (v := 1) (by decide) (by decide) dX9_law_228 (sd_goto (tgt := 180) (by decide) dX9_law_231 (Sd.go)))))))))))))))))))))))))))))))))))) : Sd l E YX9_law (d + 1) 0 0 Q 0 0 180 (bX9_law_180 l E d Q)) ls st h hB
theorem eX9_law {l : Launch} {E : Ev} {d : Nat} {Q : Option Value → Hp → Prop} {h : Hp} {a0 : Nat} (hk : Go l E YX9_law d 0 0 Q 0 0 0 [some (.ref a0), none, none] [] h) : GoM l E YX9_law d 0 0 [.ref a0] h Q := GoM.of (by decide +kernel) rfl (by simp [entA, YX9_law]) hk
theorem dX9_force_0 : decode cX9_force 0 = .ok (.aload_n 0, 1) := by decide +kernel
theorem dX9_force_1 : decode cX9_force 1 = .ok (.iconst 0, 1) := by decide +kernel
theorem dX9_force_2 : decode cX9_force 2 = .ok (.putfield 123, 3) := by decide +kernel
theorem dX9_force_5 : decode cX9_force 5 = .ok (.iload_n 1, 1) := by decide +kernel
theorem dX9_force_6 : decode cX9_force 6 = .ok (.iconst (-1), 1) := by decide +kernel
theorem dX9_force_7 : decode cX9_force 7 = .ok (.if_icmp .eq 21, 3) := by decide +kernel
theorem dX9_force_10 : decode cX9_force 10 = .ok (.iload_n 1, 1) := by decide +kernel
theorem dX9_force_11 : decode cX9_force 11 = .ok (.i2l, 1) := by decide +kernel
theorem dX9_force_12 : decode cX9_force 12 = .ok (.lconst 0, 1) := by decide +kernel
theorem dX9_force_13 : decode cX9_force 13 = .ok (.aload_n 0, 1) := by decide +kernel
theorem dX9_force_14 : decode cX9_force 14 = .ok (.getfield 13, 3) := by decide +kernel
theorem dX9_force_17 : decode cX9_force 17 = .ok (.iconst 2, 1) := by decide +kernel
theorem dX9_force_18 : decode cX9_force 18 = .ok (.iaload, 1) := by decide +kernel
theorem dX9_force_19 : decode cX9_force 19 = .ok (.i2l, 1) := by decide +kernel
theorem dX9_force_20 : decode cX9_force 20 = .ok (.lconst 1, 1) := by decide +kernel
theorem dX9_force_21 : decode cX9_force 21 = .ok (.lsub, 1) := by decide +kernel
theorem dX9_force_22 : decode cX9_force 22 = .ok (.invokestatic 133, 3) := by decide +kernel
theorem dX9_force_25 : decode cX9_force 25 = .ok (.ifCond .eq 12, 3) := by decide +kernel
theorem dX9_force_28 : decode cX9_force 28 = .ok (.aload_n 0, 1) := by decide +kernel
theorem dX9_force_29 : decode cX9_force 29 = .ok (.iconst 3, 1) := by decide +kernel
theorem dX9_force_30 : decode cX9_force 30 = .ok (.iload_n 1, 1) := by decide +kernel
theorem dX9_force_31 : decode cX9_force 31 = .ok (.invokevirtual 159, 3) := by decide +kernel
theorem dX9_force_34 : decode cX9_force 34 = .ok (.goto 9, 3) := by decide +kernel
theorem dX9_force_37 : decode cX9_force 37 = .ok (.aload_n 0, 1) := by decide +kernel
theorem dX9_force_38 : decode cX9_force 38 = .ok (.bipush (-2), 2) := by decide +kernel
theorem dX9_force_40 : decode cX9_force 40 = .ok (.invokevirtual 137, 3) := by decide +kernel
theorem dX9_force_43 : decode cX9_force 43 = .ok (.ireturn, 1) := by decide +kernel
def bX9_force_0 (l : Launch) (E : Ev) (d : Nat) (Q : Option Value → Hp → Prop) : Kt := k_aload 0 (k_push (.int 0) (k_putI 9 55 0 (k_iload 1 (k_push (.int (-1)) (k_icmp_eq (Go l E YX9_force (d + 1) 0 0 Q 0 0 28) (k_iload 1 (k_i2l (k_push (.long 0) (k_aload 0 (k_getR 9 55 3 (k_push (.int 2) (k_iaload (k_i2l (k_push (.long 1) (k_lsub (k_callS l E YX9_in d 0 0 3 (k_if_eq (k_aload 0 (k_push (.int (-2)) (k_callV l E 9 55 YX9_tell d 0 0 1 (k_iret .int Q)))) (Go l E YX9_force (d + 1) 0 0 Q 0 0 28))))))))))))))))))
set_option maxRecDepth 100000 in
set_option maxHeartbeats 4000000 in
theorem gX9_force_0 {l : Launch} {E : Ev} {d : Nat} {Q : Option Value → Hp → Prop} {ls : Lv} {st : List Value} {h : Hp} (hB : bX9_force_0 l E d Q ls st h) : Go l E YX9_force (d + 1) 0 0 Q 0 0 0 ls st h :=
  (sd_aload_n (i := 0) rfl dX9_force_0 (sd_iconst (v := 0) (by decide) dX9_force_1 (sd_putI clsX9 (f := 0) (by decide) (fun _ _ _ => rfl) rfl (Or.inl rfl) mw_1178 dX9_force_2 (sd_iload_n (i := 1) rfl dX9_force_5 (sd_iconst (v := (-1)) (by decide) dX9_force_6 (sd_icmp_eq (tgt := 28) (by decide) dX9_force_7 (Sd.go) (sd_iload_n (i := 1) rfl dX9_force_10 (sd_i2l dX9_force_11 (sd_lconst (v := 0) (by decide) dX9_force_12 (sd_aload_n (i := 0) rfl dX9_force_13 (sd_getR clsX9 (f := 3) (by decide) (fun _ _ _ => rfl) mw_1181 dX9_force_14 (sd_iconst (v := 2) (by decide) dX9_force_17 (sd_iaload dX9_force_18 (sd_i2l dX9_force_19 (sd_lconst (v := 1) (by decide) dX9_force_20 (sd_lsub dX9_force_21 (sd_callS (Y' := YX9_in) (mc' := 0) (ms' := 0) (n := 3) mw_1348 mw_1349 mw_108 mw_1350 (okmX9_in) (by decide) (Nat.le_refl _) (by decide) (by decide) dX9_force_22 (sd_if_eq (tgt := 37) (by decide) dX9_force_25 (sd_aload_n (i := 0) rfl dX9_force_37 (sd_bipush (v := (-2)) (by decide) dX9_force_38 (sd_callV (Y' := YX9_tell) (mc' := 0) (ms' := 0) (n := 1) clsX9.1 mw_1351 mw_1353 mw_45 mw_108 mw_1354 rfl (okmX9_tell) (by decide) (Nat.le_refl _) (by decide) (by decide) dX9_force_40 (sd_iret (ty := .int) rfl (by decide) (by decide) dX9_force_43)))) (Sd.go)))))))))))))))))) : Sd l E YX9_force (d + 1) 0 0 Q 0 0 0 (bX9_force_0 l E d Q)) ls st h hB
def bX9_force_28 (l : Launch) (E : Ev) (d : Nat) (Q : Option Value → Hp → Prop) : Kt := k_aload 0 (k_push (.int 3) (k_iload 1 (k_callV l E 9 55 YX9_change d 0 0 2 (k_iret .int Q))))
set_option maxRecDepth 100000 in
set_option maxHeartbeats 4000000 in
theorem gX9_force_28 {l : Launch} {E : Ev} {d : Nat} {Q : Option Value → Hp → Prop} {ls : Lv} {st : List Value} {h : Hp} (hB : bX9_force_28 l E d Q ls st h) : Go l E YX9_force (d + 1) 0 0 Q 0 0 28 ls st h :=
  (sd_aload_n (i := 0) rfl dX9_force_28 (sd_iconst (v := 3) (by decide) dX9_force_29 (sd_iload_n (i := 1) rfl dX9_force_30 (sd_callV (Y' := YX9_change) (mc' := 0) (ms' := 0) (n := 2) clsX9.1 mw_1385 mw_1387 mw_47 mw_108 mw_1388 rfl (okmX9_change) (by decide) (Nat.le_refl _) (by decide) (by decide) dX9_force_31 (sd_goto (tgt := 43) (by decide) dX9_force_34 (sd_iret (ty := .int) rfl (by decide) (by decide) dX9_force_43))))) : Sd l E YX9_force (d + 1) 0 0 Q 0 0 28 (bX9_force_28 l E d Q)) ls st h hB
theorem eX9_force {l : Launch} {E : Ev} {d : Nat} {Q : Option Value → Hp → Prop} {h : Hp} {a0 : Nat} {x1 : Int32} (hk : Go l E YX9_force d 0 0 Q 0 0 0 [some (.ref a0), some (.int x1)] [] h) : GoM l E YX9_force d 0 0 [.ref a0, .int x1] h Q := GoM.of (by decide +kernel) rfl (by simp [entA, YX9_force]) hk
