theorem dX8_init_0 : decode cX8_init 0 = .ok (.aload_n 0, 1) := by decide +kernel
theorem dX8_init_1 : decode cX8_init 1 = .ok (.invokespecial 1, 3) := by decide +kernel
theorem dX8_init_4 : decode cX8_init 4 = .ok (.aload_n 0, 1) := by decide +kernel
theorem dX8_init_5 : decode cX8_init 5 = .ok (.new 7, 3) := by decide +kernel
theorem dX8_init_8 : decode cX8_init 8 = .ok (.dup, 1) := by decide +kernel
theorem dX8_init_9 : decode cX8_init 9 = .ok (.invokespecial 9, 3) := by decide +kernel
theorem dX8_init_12 : decode cX8_init 12 = .ok (.putfield 10, 3) := by decide +kernel
theorem dX8_init_15 : decode cX8_init 15 = .ok (.aload_n 0, 1) := by decide +kernel
theorem dX8_init_16 : decode cX8_init 16 = .ok (.iconst 2, 1) := by decide +kernel
theorem dX8_init_17 : decode cX8_init 17 = .ok (.anewarray 7, 3) := by decide +kernel
theorem dX8_init_20 : decode cX8_init 20 = .ok (.dup, 1) := by decide +kernel
theorem dX8_init_21 : decode cX8_init 21 = .ok (.iconst 0, 1) := by decide +kernel
theorem dX8_init_22 : decode cX8_init 22 = .ok (.new 7, 3) := by decide +kernel
theorem dX8_init_25 : decode cX8_init 25 = .ok (.dup, 1) := by decide +kernel
theorem dX8_init_26 : decode cX8_init 26 = .ok (.invokespecial 9, 3) := by decide +kernel
theorem dX8_init_29 : decode cX8_init 29 = .ok (.aastore, 1) := by decide +kernel
theorem dX8_init_30 : decode cX8_init 30 = .ok (.dup, 1) := by decide +kernel
theorem dX8_init_31 : decode cX8_init 31 = .ok (.iconst 1, 1) := by decide +kernel
theorem dX8_init_32 : decode cX8_init 32 = .ok (.new 7, 3) := by decide +kernel
theorem dX8_init_35 : decode cX8_init 35 = .ok (.dup, 1) := by decide +kernel
theorem dX8_init_36 : decode cX8_init 36 = .ok (.invokespecial 9, 3) := by decide +kernel
theorem dX8_init_39 : decode cX8_init 39 = .ok (.aastore, 1) := by decide +kernel
theorem dX8_init_40 : decode cX8_init 40 = .ok (.putfield 16, 3) := by decide +kernel
theorem dX8_init_43 : decode cX8_init 43 = .ok (.aload_n 0, 1) := by decide +kernel
theorem dX8_init_44 : decode cX8_init 44 = .ok (.iconst 2, 1) := by decide +kernel
theorem dX8_init_45 : decode cX8_init 45 = .ok (.newarray .boolean, 2) := by decide +kernel
theorem dX8_init_47 : decode cX8_init 47 = .ok (.putfield 20, 3) := by decide +kernel
theorem dX8_init_50 : decode cX8_init 50 = .ok (.aload_n 0, 1) := by decide +kernel
theorem dX8_init_51 : decode cX8_init 51 = .ok (.sipush 400, 3) := by decide +kernel
theorem dX8_init_54 : decode cX8_init 54 = .ok (.newarray .int, 2) := by decide +kernel
theorem dX8_init_56 : decode cX8_init 56 = .ok (.putfield 24, 3) := by decide +kernel
theorem dX8_init_59 : decode cX8_init 59 = .ok (.aload_n 0, 1) := by decide +kernel
theorem dX8_init_60 : decode cX8_init 60 = .ok (.new 28, 3) := by decide +kernel
theorem dX8_init_63 : decode cX8_init 63 = .ok (.dup, 1) := by decide +kernel
theorem dX8_init_64 : decode cX8_init 64 = .ok (.invokespecial 30, 3) := by decide +kernel
theorem dX8_init_67 : decode cX8_init 67 = .ok (.putfield 31, 3) := by decide +kernel
theorem dX8_init_70 : decode cX8_init 70 = .ok (.aload_n 0, 1) := by decide +kernel
theorem dX8_init_71 : decode cX8_init 71 = .ok (.iconst (-1), 1) := by decide +kernel
theorem dX8_init_72 : decode cX8_init 72 = .ok (.putfield 35, 3) := by decide +kernel
theorem dX8_init_75 : decode cX8_init 75 = .ok (.aload_n 0, 1) := by decide +kernel
theorem dX8_init_76 : decode cX8_init 76 = .ok (.iconst 5, 1) := by decide +kernel
theorem dX8_init_77 : decode cX8_init 77 = .ok (.newarray .int, 2) := by decide +kernel
theorem dX8_init_79 : decode cX8_init 79 = .ok (.putfield 39, 3) := by decide +kernel
theorem dX8_init_82 : decode cX8_init 82 = .ok (.aload_n 0, 1) := by decide +kernel
theorem dX8_init_83 : decode cX8_init 83 = .ok (.new 42, 3) := by decide +kernel
theorem dX8_init_86 : decode cX8_init 86 = .ok (.dup, 1) := by decide +kernel
theorem dX8_init_87 : decode cX8_init 87 = .ok (.invokespecial 44, 3) := by decide +kernel
theorem dX8_init_90 : decode cX8_init 90 = .ok (.putfield 45, 3) := by decide +kernel
theorem dX8_init_93 : decode cX8_init 93 = .ok (.aload_n 0, 1) := by decide +kernel
theorem dX8_init_94 : decode cX8_init 94 = .ok (.new 42, 3) := by decide +kernel
theorem dX8_init_97 : decode cX8_init 97 = .ok (.dup, 1) := by decide +kernel
theorem dX8_init_98 : decode cX8_init 98 = .ok (.invokespecial 44, 3) := by decide +kernel
theorem dX8_init_101 : decode cX8_init 101 = .ok (.putfield 49, 3) := by decide +kernel
theorem dX8_init_104 : decode cX8_init 104 = .ok (.aload_n 0, 1) := by decide +kernel
theorem dX8_init_105 : decode cX8_init 105 = .ok (.new 52, 3) := by decide +kernel
theorem dX8_init_108 : decode cX8_init 108 = .ok (.dup, 1) := by decide +kernel
theorem dX8_init_109 : decode cX8_init 109 = .ok (.aload_n 0, 1) := by decide +kernel
theorem dX8_init_110 : decode cX8_init 110 = .ok (.getfield 45, 3) := by decide +kernel
theorem dX8_init_113 : decode cX8_init 113 = .ok (.invokespecial 54, 3) := by decide +kernel
theorem dX8_init_116 : decode cX8_init 116 = .ok (.putfield 57, 3) := by decide +kernel
theorem dX8_init_119 : decode cX8_init 119 = .ok (.aload_n 0, 1) := by decide +kernel
theorem dX8_init_120 : decode cX8_init 120 = .ok (.new 61, 3) := by decide +kernel
theorem dX8_init_123 : decode cX8_init 123 = .ok (.dup, 1) := by decide +kernel
theorem dX8_init_124 : decode cX8_init 124 = .ok (.aload_n 0, 1) := by decide +kernel
theorem dX8_init_125 : decode cX8_init 125 = .ok (.getfield 45, 3) := by decide +kernel
theorem dX8_init_128 : decode cX8_init 128 = .ok (.invokespecial 63, 3) := by decide +kernel
theorem dX8_init_131 : decode cX8_init 131 = .ok (.putfield 64, 3) := by decide +kernel
theorem dX8_init_134 : decode cX8_init 134 = .ok (.aload_n 0, 1) := by decide +kernel
theorem dX8_init_135 : decode cX8_init 135 = .ok (.new 68, 3) := by decide +kernel
theorem dX8_init_138 : decode cX8_init 138 = .ok (.dup, 1) := by decide +kernel
theorem dX8_init_139 : decode cX8_init 139 = .ok (.invokespecial 70, 3) := by decide +kernel
theorem dX8_init_142 : decode cX8_init 142 = .ok (.putfield 71, 3) := by decide +kernel
theorem dX8_init_145 : decode cX8_init 145 = .ok (.aload_n 0, 1) := by decide +kernel
theorem dX8_init_146 : decode cX8_init 146 = .ok (.new 75, 3) := by decide +kernel
theorem dX8_init_149 : decode cX8_init 149 = .ok (.dup, 1) := by decide +kernel
theorem dX8_init_150 : decode cX8_init 150 = .ok (.invokespecial 77, 3) := by decide +kernel
theorem dX8_init_153 : decode cX8_init 153 = .ok (.putfield 78, 3) := by decide +kernel
theorem dX8_init_156 : decode cX8_init 156 = .ok (.aload_n 0, 1) := by decide +kernel
theorem dX8_init_157 : decode cX8_init 157 = .ok (.bipush 8, 2) := by decide +kernel
theorem dX8_init_159 : decode cX8_init 159 = .ok (.newarray .int, 2) := by decide +kernel
theorem dX8_init_161 : decode cX8_init 161 = .ok (.putfield 82, 3) := by decide +kernel
theorem dX8_init_164 : decode cX8_init 164 = .ok (.return_, 1) := by decide +kernel
def bX8_init_0 (l : Launch) (E : Ev) (d : Nat) (Q : Option Value → Hp → Prop) : Kt := k_aload 0 (k_objInit (k_aload 0 (k_new 7 15 (k_dup (k_callI l E YX7_init d 8 173 0 (k_putR 8 19 0 (k_aload 0 (k_push (.int 2) (k_anew 5 2 (k_dup (k_push (.int 0) (k_new 7 15 (k_dup (k_callI l E YX7_init d 8 173 0 (k_aastore 5 7 15 (k_dup (k_push (.int 1) (k_new 7 15 (k_dup (k_callI l E YX7_init d 8 173 0 (k_aastore 5 7 15 (k_putR 8 19 1 (k_aload 0 (k_push (.int 2) (k_newarr 3 2 (k_putR 8 19 2 (k_aload 0 (k_push (.int 400) (k_newarr 1 400 (k_putR 8 19 3 (k_aload 0 (k_new 5 12 (k_dup (k_callI l E YX5_init d 6 1640 0 (k_putR 8 19 5 (k_aload 0 (k_push (.int (-1)) (k_putI 8 19 6 (k_aload 0 (k_push (.int 5) (k_newarr 1 5 (k_putR 8 19 8 (k_aload 0 (k_new 0 7 (k_dup (k_callI l E YX0_init d 5 122 0 (k_putR 8 19 11 (k_aload 0 (k_new 0 7 (k_dup (k_callI l E YX0_init d 5 122 0 (k_putR 8 19 12 (k_aload 0 (k_new 3 10 (k_dup (k_aload 0 (k_getR 8 19 11 (k_callI l E YX3_init d 3 2320 1 (k_putR 8 19 13 (k_aload 0 (k_new 1 7 (k_dup (k_aload 0 (k_getR 8 19 11 (k_callI l E YX1_init d 4 300 1 (k_putR 8 19 14 (k_aload 0 (k_new 4 5 (k_dup (k_callI l E YX4_init d 4 712 0 (k_putR 8 19 15 (k_aload 0 (k_new 6 7 (k_dup (k_callI l E YX6_init d 3 144 0 (k_putR 8 19 16 (k_aload 0 (k_push (.int 8) (k_newarr 1 8 (k_putR 8 19 17 (k_vret Q)))))))))))))))))))))))))))))))))))))))))))))))))))))))))))))))))))))))))))))))))
set_option maxRecDepth 100000 in
set_option maxHeartbeats 4000000 in
theorem gX8_init_0 {l : Launch} {E : Ev} {d : Nat} {Q : Option Value → Hp → Prop} {ls : Lv} {st : List Value} {h : Hp} (hB : bX8_init_0 l E d Q ls st h) : Go l E YX8_init (d + 1) 69 6396 Q 0 0 0 ls st h :=
  (sd_aload_n (i := 0) rfl dX8_init_0 (sd_objInit mw_124 mw_125 mw_126 (by omega) dX8_init_1 (sd_aload_n (i := 0) rfl dX8_init_4 (sd_new clsX7 okX7 mw_127 mw_128 mw_101 (by decide) (by decide) dX8_init_5 (sd_dup dX8_init_8 (sd_callIN (Y' := YX7_init) (mc' := 8) (ms' := 173) (n := 0) (host := RX8) (i := 9) (by decide) mw_130 mw_101 mw_131 rfl rfl (okmX7_init) (by decide) (Nat.le_refl _) (by decide) (by decide) dX8_init_9 (sd_putR clsX8 (f := 0) (by decide) (fun _ _ _ => rfl) rfl (Or.inr ⟨rfl, rfl, rfl⟩) mw_431 dX8_init_12 (sd_aload_n (i := 0) rfl dX8_init_15 (sd_iconst (v := 2) (by decide) dX8_init_16 (sd_anew (ki := 5) (B := 2) (Cn := RX7) (by decide) mw_127 (by decide) (by decide) (by decide) dX8_init_17 (sd_dup dX8_init_20 (sd_iconst (v := 0) (by decide) dX8_init_21 (sd_new clsX7 okX7 mw_127 mw_128 mw_101 (by decide) (by decide) dX8_init_22 (sd_dup dX8_init_25 (sd_callIN (Y' := YX7_init) (mc' := 8) (ms' := 173) (n := 0) (host := RX8) (i := 9) (by decide) mw_130 mw_101 mw_131 rfl rfl (okmX7_init) (by decide) (Nat.le_refl _) (by decide) (by decide) dX8_init_26 (sd_aastore (ki := 5) (ci := 7) (N := 15) (by decide) dX8_init_29 (sd_dup dX8_init_30 (sd_iconst (v := 1) (by decide) dX8_init_31 (sd_new clsX7 okX7 mw_127 mw_128 mw_101 (by decide) (by decide) dX8_init_32 (sd_dup dX8_init_35 (sd_callIN (Y' := YX7_init) (mc' := 8) (ms' := 173) (n := 0) (host := RX8) (i := 9) (by decide) mw_130 mw_101 mw_131 rfl rfl (okmX7_init) (by decide) (Nat.le_refl _) (by decide) (by decide) dX8_init_36 (sd_aastore (ki := 5) (ci := 7) (N := 15) (by decide) dX8_init_39 (sd_putR clsX8 (f := 1) (by decide) (fun _ _ _ => rfl) rfl (Or.inr ⟨rfl, rfl, rfl⟩) mw_432 dX8_init_40 (sd_aload_n (i := 0) rfl dX8_init_43 (sd_iconst (v := 2) (by decide) dX8_init_44 (sd_newarr (at' := .boolean) (ki := 3) (B := 2) (by decide) mw_260 (by decide) (by decide) (by decide) dX8_init_45 (sd_putR clsX8 (f := 2) (by decide) (fun _ _ _ => rfl) rfl (Or.inr ⟨rfl, rfl, rfl⟩) mw_433 dX8_init_47 (sd_aload_n (i := 0) rfl dX8_init_50 (sd_sipush (v := 400) (by decide) dX8_init_51 (sd_newarr (at' := .int) (ki := 1) (B := 400) (by decide) mw_214 (by decide) (by decide) (by decide) dX8_init_54 (sd_putR clsX8 (f := 3) (by decide) (fun _ _ _ => rfl) rfl (Or.inr ⟨rfl, rfl, rfl⟩) mw_434 dX8_init_56 (sd_aload_n (i := 0) rfl dX8_init_59 (sd_new clsX5 okX5 mw_216 mw_217 mw_102 (by decide) (by decide) dX8_init_60 (sd_dup dX8_init_63 (sd_callIN (Y' := YX5_init) (mc' := 6) (ms' := 1640) (n := 0) (host := RX8) (i := 30) (by decide) mw_219 mw_102 mw_220 rfl rfl (okmX5_init) (by decide) (Nat.le_refl _) (by decide) (by decide) dX8_init_64 (sd_putR clsX8 (f := 5) (by decide) (fun _ _ _ => rfl) rfl (Or.inr ⟨rfl, rfl, rfl⟩) mw_436 dX8_init_67 (sd_aload_n (i := 0) rfl dX8_init_70 (sd_iconst (v := (-1)) (by decide) dX8_init_71 (sd_putI clsX8 (f := 6) (by decide) (fun _ _ _ => rfl) rfl (Or.inl rfl) mw_437 dX8_init_72 (sd_aload_n (i := 0) rfl dX8_init_75 (sd_iconst (v := 5) (by decide) dX8_init_76 (sd_newarr (at' := .int) (ki := 1) (B := 5) (by decide) mw_214 (by decide) (by decide) (by decide) dX8_init_77 (sd_putR clsX8 (f := 8) (by decide) (fun _ _ _ => rfl) rfl (Or.inr ⟨rfl, rfl, rfl⟩) mw_439 dX8_init_79 (sd_aload_n (i := 0) rfl dX8_init_82 (sd_new clsX0 okX0 mw_261 mw_262 mw_103 (by decide) (by decide) dX8_init_83 (sd_dup dX8_init_86 (sd_callIN (Y' := YX0_init) (mc' := 5) (ms' := 122) (n := 0) (host := RX8) (i := 44) (by decide) mw_264 mw_103 mw_265 rfl rfl (okmX0_init) (by decide) (Nat.le_refl _) (by decide) (by decide) dX8_init_87 (sd_putR clsX8 (f := 11) (by decide) (fun _ _ _ => rfl) rfl (Or.inr ⟨rfl, rfl, rfl⟩) mw_442 dX8_init_90 (sd_aload_n (i := 0) rfl dX8_init_93 (sd_new clsX0 okX0 mw_261 mw_262 mw_103 (by decide) (by decide) dX8_init_94 (sd_dup dX8_init_97 (sd_callIN (Y' := YX0_init) (mc' := 5) (ms' := 122) (n := 0) (host := RX8) (i := 44) (by decide) mw_264 mw_103 mw_265 rfl rfl (okmX0_init) (by decide) (Nat.le_refl _) (by decide) (by decide) dX8_init_98 (sd_putR clsX8 (f := 12) (by decide) (fun _ _ _ => rfl) rfl (Or.inr ⟨rfl, rfl, rfl⟩) mw_443 dX8_init_101 (sd_aload_n (i := 0) rfl dX8_init_104 (sd_new clsX3 okX3 mw_302 mw_303 mw_104 (by decide) (by decide) dX8_init_105 (sd_dup dX8_init_108 (sd_aload_n (i := 0) rfl dX8_init_109 (sd_getR clsX8 (f := 11) (by decide) (fun _ _ _ => rfl) mw_442 dX8_init_110 (sd_callI (Y' := YX3_init) (mc' := 3) (ms' := 2320) (n := 1) mw_304 mw_305 mw_104 mw_306 rfl rfl (okmX3_init) (by decide) (Nat.le_refl _) (by decide) (by decide) dX8_init_113 (sd_putR clsX8 (f := 13) (by decide) (fun _ _ _ => rfl) rfl (Or.inr ⟨rfl, rfl, rfl⟩) mw_444 dX8_init_116 (sd_aload_n (i := 0) rfl dX8_init_119 (sd_new clsX1 okX1 mw_344 mw_345 mw_105 (by decide) (by decide) dX8_init_120 (sd_dup dX8_init_123 (sd_aload_n (i := 0) rfl dX8_init_124 (sd_getR clsX8 (f := 11) (by decide) (fun _ _ _ => rfl) mw_442 dX8_init_125 (sd_callI (Y' := YX1_init) (mc' := 4) (ms' := 300) (n := 1) mw_346 mw_347 mw_105 mw_348 rfl rfl (okmX1_init) (by decide) (Nat.le_refl _) (by decide) (by decide) dX8_init_128 (sd_putR clsX8 (f := 14) (by decide) (fun _ _ _ => rfl) rfl (Or.inr ⟨rfl, rfl, rfl⟩) mw_445 dX8_init_131 (sd_aload_n (i := 0) rfl dX8_init_134 (sd_new clsX4 okX4 mw_373 mw_374 mw_106 (by decide) (by decide) dX8_init_135 (sd_dup dX8_init_138 (sd_callIN (Y' := YX4_init) (mc' := 4) (ms' := 712) (n := 0) (host := RX8) (i := 70) (by decide) mw_376 mw_106 mw_377 rfl rfl (okmX4_init) (by decide) (Nat.le_refl _) (by decide) (by decide) dX8_init_139 (sd_putR clsX8 (f := 15) (by decide) (fun _ _ _ => rfl) rfl (Or.inr ⟨rfl, rfl, rfl⟩) mw_446 dX8_init_142 (sd_aload_n (i := 0) rfl dX8_init_145 (sd_new clsX6 okX6 mw_397 mw_398 mw_107 (by decide) (by decide) dX8_init_146 (sd_dup dX8_init_149 (sd_callIN (Y' := YX6_init) (mc' := 3) (ms' := 144) (n := 0) (host := RX8) (i := 77) (by decide) mw_400 mw_107 mw_401 rfl rfl (okmX6_init) (by decide) (Nat.le_refl _) (by decide) (by decide) dX8_init_150 (sd_putR clsX8 (f := 16) (by decide) (fun _ _ _ => rfl) rfl (Or.inr ⟨rfl, rfl, rfl⟩) mw_447 dX8_init_153 (sd_aload_n (i := 0) rfl dX8_init_156 (sd_bipush (v := 8) (by decide) dX8_init_157 (sd_newarr (at' := .int) (ki := 1) (B := 8) (by decide) mw_214 (by decide) (by decide) (by decide) dX8_init_159 (sd_putR clsX8 (f := 17) (by decide) (fun _ _ _ => rfl) rfl (Or.inr ⟨rfl, rfl, rfl⟩) mw_448 dX8_init_161 (sd_vret rfl (by decide) (by decide) dX8_init_164))))))))))))))))))))))))))))))))))))))))))))))))))))))))))))))))))))))))))))))))) : Sd l E YX8_init (d + 1) 69 6396 Q 0 0 0 (bX8_init_0 l E d Q)) ls st h hB
theorem eX8_init {l : Launch} {E : Ev} {d : Nat} {Q : Option Value → Hp → Prop} {h : Hp} {a0 : Nat} (hk : Go l E YX8_init d 69 6396 Q 0 0 0 [some (.ref a0)] [] h) : GoM l E YX8_init d 69 6396 [.ref a0] h Q := GoM.of (by decide +kernel) rfl (by simp [entA, YX8_init]) hk
theorem dX8_actor_0 : decode cX8_actor 0 = .ok (.iconst 0, 1) := by decide +kernel
theorem dX8_actor_1 : decode cX8_actor 1 = .ok (.iload_n 1, 1) := by decide +kernel
theorem dX8_actor_2 : decode cX8_actor 2 = .ok (.invokestatic 85, 3) := by decide +kernel
theorem dX8_actor_5 : decode cX8_actor 5 = .ok (.ifCond .eq 28, 3) := by decide +kernel
theorem dX8_actor_8 : decode cX8_actor 8 = .ok (.iconst 1, 1) := by decide +kernel
theorem dX8_actor_9 : decode cX8_actor 9 = .ok (.iload_n 2, 1) := by decide +kernel
theorem dX8_actor_10 : decode cX8_actor 10 = .ok (.invokestatic 85, 3) := by decide +kernel
theorem dX8_actor_13 : decode cX8_actor 13 = .ok (.ifCond .eq 20, 3) := by decide +kernel
theorem dX8_actor_16 : decode cX8_actor 16 = .ok (.iconst 2, 1) := by decide +kernel
theorem dX8_actor_17 : decode cX8_actor 17 = .ok (.iload_n 3, 1) := by decide +kernel
theorem dX8_actor_18 : decode cX8_actor 18 = .ok (.invokestatic 85, 3) := by decide +kernel
theorem dX8_actor_21 : decode cX8_actor 21 = .ok (.ifCond .eq 12, 3) := by decide +kernel
theorem dX8_actor_24 : decode cX8_actor 24 = .ok (.iconst 3, 1) := by decide +kernel
theorem dX8_actor_25 : decode cX8_actor 25 = .ok (.iload 4, 2) := by decide +kernel
theorem dX8_actor_27 : decode cX8_actor 27 = .ok (.invokestatic 85, 3) := by decide +kernel
theorem dX8_actor_30 : decode cX8_actor 30 = .ok (.ifCond .ne 9, 3) := by decide +kernel
theorem dX8_actor_33 : decode cX8_actor 33 = .ok (.aload_n 0, 1) := by decide +kernel
theorem dX8_actor_34 : decode cX8_actor 34 = .ok (.iconst (-1), 1) := by decide +kernel
theorem dX8_actor_35 : decode cX8_actor 35 = .ok (.invokevirtual 89, 3) := by decide +kernel
theorem dX8_actor_38 : decode cX8_actor 38 = .ok (.ireturn, 1) := by decide +kernel
theorem dX8_actor_39 : decode cX8_actor 39 = .ok (.aload_n 0, 1) := by decide +kernel
theorem dX8_actor_40 : decode cX8_actor 40 = .ok (.getfield 10, 3) := by decide +kernel
theorem dX8_actor_43 : decode cX8_actor 43 = .ok (.getfield 93, 3) := by decide +kernel
theorem dX8_actor_46 : decode cX8_actor 46 = .ok (.bipush 8, 2) := by decide +kernel
theorem dX8_actor_48 : decode cX8_actor 48 = .ok (.if_icmp .lt 10, 3) := by decide +kernel
theorem dX8_actor_51 : decode cX8_actor 51 = .ok (.aload_n 0, 1) := by decide +kernel
theorem dX8_actor_52 : decode cX8_actor 52 = .ok (.bipush (-5), 2) := by decide +kernel
theorem dX8_actor_54 : decode cX8_actor 54 = .ok (.invokevirtual 89, 3) := by decide +kernel
theorem dX8_actor_57 : decode cX8_actor 57 = .ok (.ireturn, 1) := by decide +kernel
theorem dX8_actor_58 : decode cX8_actor 58 = .ok (.aload_n 0, 1) := by decide +kernel
theorem dX8_actor_59 : decode cX8_actor 59 = .ok (.getfield 10, 3) := by decide +kernel
theorem dX8_actor_62 : decode cX8_actor 62 = .ok (.getfield 93, 3) := by decide +kernel
theorem dX8_actor_65 : decode cX8_actor 65 = .ok (.iconst 4, 1) := by decide +kernel
theorem dX8_actor_66 : decode cX8_actor 66 = .ok (.imul, 1) := by decide +kernel
theorem dX8_actor_67 : decode cX8_actor 67 = .ok (.istore 5, 2) := by decide +kernel
theorem dX8_actor_69 : decode cX8_actor 69 = .ok (.aload_n 0, 1) := by decide +kernel
theorem dX8_actor_70 : decode cX8_actor 70 = .ok (.getfield 10, 3) := by decide +kernel
theorem dX8_actor_73 : decode cX8_actor 73 = .ok (.getfield 96, 3) := by decide +kernel
theorem dX8_actor_76 : decode cX8_actor 76 = .ok (.iload 5, 2) := by decide +kernel
theorem dX8_actor_78 : decode cX8_actor 78 = .ok (.iload_n 1, 1) := by decide +kernel
theorem dX8_actor_79 : decode cX8_actor 79 = .ok (.iastore, 1) := by decide +kernel
theorem dX8_actor_80 : decode cX8_actor 80 = .ok (.aload_n 0, 1) := by decide +kernel
theorem dX8_actor_81 : decode cX8_actor 81 = .ok (.getfield 10, 3) := by decide +kernel
theorem dX8_actor_84 : decode cX8_actor 84 = .ok (.getfield 96, 3) := by decide +kernel
theorem dX8_actor_87 : decode cX8_actor 87 = .ok (.iload 5, 2) := by decide +kernel
theorem dX8_actor_89 : decode cX8_actor 89 = .ok (.iconst 1, 1) := by decide +kernel
theorem dX8_actor_90 : decode cX8_actor 90 = .ok (.iadd, 1) := by decide +kernel
theorem dX8_actor_91 : decode cX8_actor 91 = .ok (.iload_n 2, 1) := by decide +kernel
theorem dX8_actor_92 : decode cX8_actor 92 = .ok (.iastore, 1) := by decide +kernel
theorem dX8_actor_93 : decode cX8_actor 93 = .ok (.aload_n 0, 1) := by decide +kernel
theorem dX8_actor_94 : decode cX8_actor 94 = .ok (.getfield 10, 3) := by decide +kernel
theorem dX8_actor_97 : decode cX8_actor 97 = .ok (.getfield 96, 3) := by decide +kernel
theorem dX8_actor_100 : decode cX8_actor 100 = .ok (.iload 5, 2) := by decide +kernel
theorem dX8_actor_102 : decode cX8_actor 102 = .ok (.iconst 2, 1) := by decide +kernel
theorem dX8_actor_103 : decode cX8_actor 103 = .ok (.iadd, 1) := by decide +kernel
theorem dX8_actor_104 : decode cX8_actor 104 = .ok (.iload_n 3, 1) := by decide +kernel
theorem dX8_actor_105 : decode cX8_actor 105 = .ok (.iastore, 1) := by decide +kernel
theorem dX8_actor_106 : decode cX8_actor 106 = .ok (.aload_n 0, 1) := by decide +kernel
theorem dX8_actor_107 : decode cX8_actor 107 = .ok (.getfield 10, 3) := by decide +kernel
theorem dX8_actor_110 : decode cX8_actor 110 = .ok (.getfield 96, 3) := by decide +kernel
theorem dX8_actor_113 : decode cX8_actor 113 = .ok (.iload 5, 2) := by decide +kernel
theorem dX8_actor_115 : decode cX8_actor 115 = .ok (.iconst 3, 1) := by decide +kernel
theorem dX8_actor_116 : decode cX8_actor 116 = .ok (.iadd, 1) := by decide +kernel
theorem dX8_actor_117 : decode cX8_actor 117 = .ok (.iload 4, 2) := by decide +kernel
theorem dX8_actor_119 : decode cX8_actor 119 = .ok (.iastore, 1) := by decide +kernel
theorem dX8_actor_120 : decode cX8_actor 120 = .ok (.aload_n 0, 1) := by decide +kernel
theorem dX8_actor_121 : decode cX8_actor 121 = .ok (.getfield 10, 3) := by decide +kernel
theorem dX8_actor_124 : decode cX8_actor 124 = .ok (.dup, 1) := by decide +kernel
theorem dX8_actor_125 : decode cX8_actor 125 = .ok (.getfield 93, 3) := by decide +kernel
theorem dX8_actor_128 : decode cX8_actor 128 = .ok (.iconst 1, 1) := by decide +kernel
theorem dX8_actor_129 : decode cX8_actor 129 = .ok (.iadd, 1) := by decide +kernel
theorem dX8_actor_130 : decode cX8_actor 130 = .ok (.putfield 93, 3) := by decide +kernel
theorem dX8_actor_133 : decode cX8_actor 133 = .ok (.aload_n 0, 1) := by decide +kernel
theorem dX8_actor_134 : decode cX8_actor 134 = .ok (.aload_n 0, 1) := by decide +kernel
theorem dX8_actor_135 : decode cX8_actor 135 = .ok (.getfield 10, 3) := by decide +kernel
theorem dX8_actor_138 : decode cX8_actor 138 = .ok (.getfield 93, 3) := by decide +kernel
theorem dX8_actor_141 : decode cX8_actor 141 = .ok (.iconst 1, 1) := by decide +kernel
theorem dX8_actor_142 : decode cX8_actor 142 = .ok (.isub, 1) := by decide +kernel
theorem dX8_actor_143 : decode cX8_actor 143 = .ok (.invokevirtual 99, 3) := by decide +kernel
theorem dX8_actor_146 : decode cX8_actor 146 = .ok (.ireturn, 1) := by decide +kernel
def bX8_actor_0 (l : Launch) (E : Ev) (d : Nat) (Q : Option Value → Hp → Prop) : Kt := k_push (.int 0) (k_iload 1 (k_callS l E YX8_actorFits d 0 0 2 (k_if_eq (Go l E YX8_actor (d + 1) 0 0 Q 0 0 33) (k_push (.int 1) (k_iload 2 (k_callS l E YX8_actorFits d 0 0 2 (k_if_eq (Go l E YX8_actor (d + 1) 0 0 Q 0 0 33) (k_push (.int 2) (k_iload 3 (k_callS l E YX8_actorFits d 0 0 2 (k_if_eq (Go l E YX8_actor (d + 1) 0 0 Q 0 0 33) (k_push (.int 3) (k_iload 4 (k_callS l E YX8_actorFits d 0 0 2 (k_if_ne (k_aload 0 (k_getR 8 19 0 (k_getI 7 15 0 (k_push (.int 8) (k_icmp_lt (k_aload 0 (k_getR 8 19 0 (k_getI 7 15 0 (k_push (.int 4) (k_imul (k_istore 5 (k_aload 0 (k_getR 8 19 0 (k_getR 7 15 2 (k_iload 5 (k_iload 1 (k_iastore (k_aload 0 (k_getR 8 19 0 (k_getR 7 15 2 (k_iload 5 (k_push (.int 1) (k_iadd (k_iload 2 (k_iastore (k_aload 0 (k_getR 8 19 0 (k_getR 7 15 2 (k_iload 5 (k_push (.int 2) (k_iadd (k_iload 3 (k_iastore (k_aload 0 (k_getR 8 19 0 (k_getR 7 15 2 (k_iload 5 (k_push (.int 3) (k_iadd (k_iload 4 (k_iastore (k_aload 0 (k_getR 8 19 0 (k_dup (k_getI 7 15 0 (k_push (.int 1) (k_iadd (k_putI 7 15 0 (k_aload 0 (k_aload 0 (k_getR 8 19 0 (k_getI 7 15 0 (k_push (.int 1) (k_isub (k_callV l E 8 19 YX8_accept d 0 0 1 (k_iret .int Q))))))))))))))))))))))))))))))))))))))))))))))))))) (k_aload 0 (k_push (.int (-5)) (k_callV l E 8 19 YX8_refuse d 0 0 1 (k_iret .int Q))))))))) (Go l E YX8_actor (d + 1) 0 0 Q 0 0 33))))))))))))))))
set_option maxRecDepth 100000 in
set_option maxHeartbeats 4000000 in
theorem gX8_actor_0 {l : Launch} {E : Ev} {d : Nat} {Q : Option Value → Hp → Prop} {ls : Lv} {st : List Value} {h : Hp} (hB : bX8_actor_0 l E d Q ls st h) : Go l E YX8_actor (d + 1) 0 0 Q 0 0 0 ls st h :=
  (sd_iconst (v := 0) (by decide) dX8_actor_0 (sd_iload_n (i := 1) rfl dX8_actor_1 (sd_callS (Y' := YX8_actorFits) (mc' := 0) (ms' := 0) (n := 2) mw_493 mw_494 mw_100 mw_495 (okmX8_actorFits) (by decide) (Nat.le_refl _) (by decide) (by decide) dX8_actor_2 (sd_if_eq (tgt := 33) (by decide) dX8_actor_5 (Sd.go) (sd_iconst (v := 1) (by decide) dX8_actor_8 (sd_iload_n (i := 2) rfl dX8_actor_9 (sd_callS (Y' := YX8_actorFits) (mc' := 0) (ms' := 0) (n := 2) mw_493 mw_494 mw_100 mw_495 (okmX8_actorFits) (by decide) (Nat.le_refl _) (by decide) (by decide) dX8_actor_10 (sd_if_eq (tgt := 33) (by decide) dX8_actor_13 (Sd.go) (sd_iconst (v := 2) (by decide) dX8_actor_16 (sd_iload_n (i := 3) rfl dX8_actor_17 (sd_callS (Y' := YX8_actorFits) (mc' := 0) (ms' := 0) (n := 2) mw_493 mw_494 mw_100 mw_495 (okmX8_actorFits) (by decide) (Nat.le_refl _) (by decide) (by decide) dX8_actor_18 (sd_if_eq (tgt := 33) (by decide) dX8_actor_21 (Sd.go) (sd_iconst (v := 3) (by decide) dX8_actor_24 (sd_iload (n := 4) dX8_actor_25 (sd_callS (Y' := YX8_actorFits) (mc' := 0) (ms' := 0) (n := 2) mw_493 mw_494 mw_100 mw_495 (okmX8_actorFits) (by decide) (Nat.le_refl _) (by decide) (by decide) dX8_actor_27 (sd_if_ne (tgt := 39) (by decide) dX8_actor_30 (sd_aload_n (i := 0) rfl dX8_actor_39 (sd_getR clsX8 (f := 0) (by decide) (fun _ _ _ => rfl) mw_431 dX8_actor_40 (sd_getI clsX7 (f := 0) (by decide) (fun _ _ _ => rfl) mw_138 dX8_actor_43 (sd_bipush (v := 8) (by decide) dX8_actor_46 (sd_icmp_lt (tgt := 58) (by decide) dX8_actor_48 (sd_aload_n (i := 0) rfl dX8_actor_58 (sd_getR clsX8 (f := 0) (by decide) (fun _ _ _ => rfl) mw_431 dX8_actor_59 (sd_getI clsX7 (f := 0) (by decide) (fun _ _ _ => rfl) mw_138 dX8_actor_62 (sd_iconst (v := 4) (by decide) dX8_actor_65 (sd_imul dX8_actor_66 (sd_istore (i := 5) (by decide) dX8_actor_67 (sd_aload_n (i := 0) rfl dX8_actor_69 (sd_getR clsX8 (f := 0) (by decide) (fun _ _ _ => rfl) mw_431 dX8_actor_70 (sd_getR clsX7 (f := 2) (by decide) (fun _ _ _ => rfl) mw_145 dX8_actor_73 (sd_iload (n := 5) dX8_actor_76 (sd_iload_n (i := 1) rfl dX8_actor_78 (sd_iastore dX8_actor_79 (sd_aload_n (i := 0) rfl dX8_actor_80 (sd_getR clsX8 (f := 0) (by decide) (fun _ _ _ => rfl) mw_431 dX8_actor_81 (sd_getR clsX7 (f := 2) (by decide) (fun _ _ _ => rfl) mw_145 dX8_actor_84 (sd_iload (n := 5) dX8_actor_87 (sd_iconst (v := 1) (by decide) dX8_actor_89 (sd_iadd dX8_actor_90 (sd_iload_n (i := 2) rfl dX8_actor_91 (sd_iastore dX8_actor_92 (sd_aload_n (i := 0) rfl dX8_actor_93 (sd_getR clsX8 (f := 0) (by decide) (fun _ _ _ => rfl) mw_431 dX8_actor_94 (sd_getR clsX7 (f := 2) (by decide) (fun _ _ _ => rfl) mw_145 dX8_actor_97 (sd_iload (n := 5) dX8_actor_100 (sd_iconst (v := 2) (by decide) dX8_actor_102 (sd_iadd dX8_actor_103 (sd_iload_n (i := 3) rfl dX8_actor_104 (sd_iastore dX8_actor_105 (sd_aload_n (i := 0) rfl dX8_actor_106 (sd_getR clsX8 (f := 0) (by decide) (fun _ _ _ => rfl) mw_431 dX8_actor_107 (sd_getR clsX7 (f := 2) (by decide) (fun _ _ _ => rfl) mw_145 dX8_actor_110 (sd_iload (n := 5) dX8_actor_113 (sd_iconst (v := 3) (by decide) dX8_actor_115 (sd_iadd dX8_actor_116 (sd_iload (n := 4) dX8_actor_117 (sd_iastore dX8_actor_119 (sd_aload_n (i := 0) rfl dX8_actor_120 (sd_getR clsX8 (f := 0) (by decide) (fun _ _ _ => rfl) mw_431 dX8_actor_121 (sd_dup dX8_actor_124 (sd_getI clsX7 (f := 0) (by decide) (fun _ _ _ => rfl) mw_138 dX8_actor_125 (sd_iconst (v := 1) (by decide) dX8_actor_128 (sd_iadd dX8_actor_129 (sd_putI clsX7 (f := 0) (by decide) (fun _ _ _ => rfl) rfl (Or.inl rfl) mw_138 dX8_actor_130 (sd_aload_n (i := 0) rfl dX8_actor_133 (sd_aload_n (i := 0) rfl dX8_actor_134 (sd_getR clsX8 (f := 0) (by decide) (fun _ _ _ => rfl) mw_431 dX8_actor_135 (sd_getI clsX7 (f := 0) (by decide) (fun _ _ _ => rfl) mw_138 dX8_actor_138 (sd_iconst (v := 1) (by decide) dX8_actor_141 (sd_isub dX8_actor_142 (sd_callV (Y' := YX8_accept) (mc' := 0) (ms' := 0) (n := 1) clsX8.1 mw_504 mw_506 mw_1 mw_100 mw_507 rfl (okmX8_accept) (by decide) (Nat.le_refl _) (by decide) (by decide) dX8_actor_143 (sd_iret (ty := .int) rfl (by decide) (by decide) dX8_actor_146))))))))))))))))))))))))))))))))))))))))))))))))))) (sd_aload_n (i := 0) rfl dX8_actor_51 (sd_bipush (v := (-5)) (by decide) dX8_actor_52 (sd_callV (Y' := YX8_refuse) (mc' := 0) (ms' := 0) (n := 1) clsX8.1 mw_500 mw_502 mw_0 mw_100 mw_503 rfl (okmX8_refuse) (by decide) (Nat.le_refl _) (by decide) (by decide) dX8_actor_54 (sd_iret (ty := .int) rfl (by decide) (by decide) dX8_actor_57))))))))) (Sd.go)))))))))))))))) : Sd l E YX8_actor (d + 1) 0 0 Q 0 0 0 (bX8_actor_0 l E d Q)) ls st h hB
def bX8_actor_33 (l : Launch) (E : Ev) (d : Nat) (Q : Option Value → Hp → Prop) : Kt := k_aload 0 (k_push (.int (-1)) (k_callV l E 8 19 YX8_refuse d 0 0 1 (k_iret .int Q)))
set_option maxRecDepth 100000 in
set_option maxHeartbeats 4000000 in
theorem gX8_actor_33 {l : Launch} {E : Ev} {d : Nat} {Q : Option Value → Hp → Prop} {ls : Lv} {st : List Value} {h : Hp} (hB : bX8_actor_33 l E d Q ls st h) : Go l E YX8_actor (d + 1) 0 0 Q 0 0 33 ls st h :=
  (sd_aload_n (i := 0) rfl dX8_actor_33 (sd_iconst (v := (-1)) (by decide) dX8_actor_34 (sd_callV (Y' := YX8_refuse) (mc' := 0) (ms' := 0) (n := 1) clsX8.1 mw_500 mw_502 mw_0 mw_100 mw_503 rfl (okmX8_refuse) (by decide) (Nat.le_refl _) (by decide) (by decide) dX8_actor_35 (sd_iret (ty := .int) rfl (by decide) (by decide) dX8_actor_38))) : Sd l E YX8_actor (d + 1) 0 0 Q 0 0 33 (bX8_actor_33 l E d Q)) ls st h hB
theorem eX8_actor {l : Launch} {E : Ev} {d : Nat} {Q : Option Value → Hp → Prop} {h : Hp} {a0 : Nat} {x1 : Int32} {x2 : Int32} {x3 : Int32} {x4 : Int32} (hk : Go l E YX8_actor d 0 0 Q 0 0 0 [some (.ref a0), some (.int x1), some (.int x2), some (.int x3), some (.int x4), none] [] h) : GoM l E YX8_actor d 0 0 [.ref a0, .int x1, .int x2, .int x3, .int x4] h Q := GoM.of (by decide +kernel) rfl (by simp [entA, YX8_actor]) hk
theorem dX8_part_0 : decode cX8_part 0 = .ok (.iconst 0, 1) := by decide +kernel
theorem dX8_part_1 : decode cX8_part 1 = .ok (.iload_n 1, 1) := by decide +kernel
theorem dX8_part_2 : decode cX8_part 2 = .ok (.invokestatic 102, 3) := by decide +kernel
theorem dX8_part_5 : decode cX8_part 5 = .ok (.ifCond .eq 19, 3) := by decide +kernel
theorem dX8_part_8 : decode cX8_part 8 = .ok (.iconst 1, 1) := by decide +kernel
theorem dX8_part_9 : decode cX8_part 9 = .ok (.iload_n 2, 1) := by decide +kernel
theorem dX8_part_10 : decode cX8_part 10 = .ok (.invokestatic 102, 3) := by decide +kernel
theorem dX8_part_13 : decode cX8_part 13 = .ok (.ifCond .eq 11, 3) := by decide +kernel
theorem dX8_part_16 : decode cX8_part 16 = .ok (.iconst 2, 1) := by decide +kernel
theorem dX8_part_17 : decode cX8_part 17 = .ok (.iload_n 3, 1) := by decide +kernel
theorem dX8_part_18 : decode cX8_part 18 = .ok (.invokestatic 102, 3) := by decide +kernel
theorem dX8_part_21 : decode cX8_part 21 = .ok (.ifCond .ne 9, 3) := by decide +kernel
theorem dX8_part_24 : decode cX8_part 24 = .ok (.aload_n 0, 1) := by decide +kernel
theorem dX8_part_25 : decode cX8_part 25 = .ok (.iconst (-1), 1) := by decide +kernel
theorem dX8_part_26 : decode cX8_part 26 = .ok (.invokevirtual 89, 3) := by decide +kernel
theorem dX8_part_29 : decode cX8_part 29 = .ok (.ireturn, 1) := by decide +kernel
theorem dX8_part_30 : decode cX8_part 30 = .ok (.aload_n 0, 1) := by decide +kernel
theorem dX8_part_31 : decode cX8_part 31 = .ok (.getfield 10, 3) := by decide +kernel
theorem dX8_part_34 : decode cX8_part 34 = .ok (.getfield 105, 3) := by decide +kernel
theorem dX8_part_37 : decode cX8_part 37 = .ok (.bipush 8, 2) := by decide +kernel
theorem dX8_part_39 : decode cX8_part 39 = .ok (.if_icmp .lt 10, 3) := by decide +kernel
theorem dX8_part_42 : decode cX8_part 42 = .ok (.aload_n 0, 1) := by decide +kernel
theorem dX8_part_43 : decode cX8_part 43 = .ok (.bipush (-5), 2) := by decide +kernel
theorem dX8_part_45 : decode cX8_part 45 = .ok (.invokevirtual 89, 3) := by decide +kernel
theorem dX8_part_48 : decode cX8_part 48 = .ok (.ireturn, 1) := by decide +kernel
theorem dX8_part_49 : decode cX8_part 49 = .ok (.aload_n 0, 1) := by decide +kernel
theorem dX8_part_50 : decode cX8_part 50 = .ok (.getfield 10, 3) := by decide +kernel
theorem dX8_part_53 : decode cX8_part 53 = .ok (.getfield 105, 3) := by decide +kernel
theorem dX8_part_56 : decode cX8_part 56 = .ok (.iconst 3, 1) := by decide +kernel
theorem dX8_part_57 : decode cX8_part 57 = .ok (.imul, 1) := by decide +kernel
theorem dX8_part_58 : decode cX8_part 58 = .ok (.istore 4, 2) := by decide +kernel
theorem dX8_part_60 : decode cX8_part 60 = .ok (.aload_n 0, 1) := by decide +kernel
theorem dX8_part_61 : decode cX8_part 61 = .ok (.getfield 10, 3) := by decide +kernel
theorem dX8_part_64 : decode cX8_part 64 = .ok (.getfield 108, 3) := by decide +kernel
theorem dX8_part_67 : decode cX8_part 67 = .ok (.iload 4, 2) := by decide +kernel
theorem dX8_part_69 : decode cX8_part 69 = .ok (.iload_n 1, 1) := by decide +kernel
theorem dX8_part_70 : decode cX8_part 70 = .ok (.iastore, 1) := by decide +kernel
theorem dX8_part_71 : decode cX8_part 71 = .ok (.aload_n 0, 1) := by decide +kernel
theorem dX8_part_72 : decode cX8_part 72 = .ok (.getfield 10, 3) := by decide +kernel
theorem dX8_part_75 : decode cX8_part 75 = .ok (.getfield 108, 3) := by decide +kernel
theorem dX8_part_78 : decode cX8_part 78 = .ok (.iload 4, 2) := by decide +kernel
theorem dX8_part_80 : decode cX8_part 80 = .ok (.iconst 1, 1) := by decide +kernel
theorem dX8_part_81 : decode cX8_part 81 = .ok (.iadd, 1) := by decide +kernel
theorem dX8_part_82 : decode cX8_part 82 = .ok (.iload_n 2, 1) := by decide +kernel
theorem dX8_part_83 : decode cX8_part 83 = .ok (.iastore, 1) := by decide +kernel
theorem dX8_part_84 : decode cX8_part 84 = .ok (.aload_n 0, 1) := by decide +kernel
theorem dX8_part_85 : decode cX8_part 85 = .ok (.getfield 10, 3) := by decide +kernel
theorem dX8_part_88 : decode cX8_part 88 = .ok (.getfield 108, 3) := by decide +kernel
theorem dX8_part_91 : decode cX8_part 91 = .ok (.iload 4, 2) := by decide +kernel
theorem dX8_part_93 : decode cX8_part 93 = .ok (.iconst 2, 1) := by decide +kernel
theorem dX8_part_94 : decode cX8_part 94 = .ok (.iadd, 1) := by decide +kernel
theorem dX8_part_95 : decode cX8_part 95 = .ok (.iload_n 3, 1) := by decide +kernel
theorem dX8_part_96 : decode cX8_part 96 = .ok (.iastore, 1) := by decide +kernel
theorem dX8_part_97 : decode cX8_part 97 = .ok (.aload_n 0, 1) := by decide +kernel
theorem dX8_part_98 : decode cX8_part 98 = .ok (.getfield 10, 3) := by decide +kernel
theorem dX8_part_101 : decode cX8_part 101 = .ok (.dup, 1) := by decide +kernel
theorem dX8_part_102 : decode cX8_part 102 = .ok (.getfield 105, 3) := by decide +kernel
theorem dX8_part_105 : decode cX8_part 105 = .ok (.iconst 1, 1) := by decide +kernel
theorem dX8_part_106 : decode cX8_part 106 = .ok (.iadd, 1) := by decide +kernel
theorem dX8_part_107 : decode cX8_part 107 = .ok (.putfield 105, 3) := by decide +kernel
theorem dX8_part_110 : decode cX8_part 110 = .ok (.aload_n 0, 1) := by decide +kernel
theorem dX8_part_111 : decode cX8_part 111 = .ok (.aload_n 0, 1) := by decide +kernel
theorem dX8_part_112 : decode cX8_part 112 = .ok (.getfield 10, 3) := by decide +kernel
theorem dX8_part_115 : decode cX8_part 115 = .ok (.getfield 105, 3) := by decide +kernel
theorem dX8_part_118 : decode cX8_part 118 = .ok (.iconst 1, 1) := by decide +kernel
theorem dX8_part_119 : decode cX8_part 119 = .ok (.isub, 1) := by decide +kernel
theorem dX8_part_120 : decode cX8_part 120 = .ok (.invokevirtual 99, 3) := by decide +kernel
theorem dX8_part_123 : decode cX8_part 123 = .ok (.ireturn, 1) := by decide +kernel
def bX8_part_0 (l : Launch) (E : Ev) (d : Nat) (Q : Option Value → Hp → Prop) : Kt := k_push (.int 0) (k_iload 1 (k_callS l E YX8_partFits d 0 0 2 (k_if_eq (Go l E YX8_part (d + 1) 0 0 Q 0 0 24) (k_push (.int 1) (k_iload 2 (k_callS l E YX8_partFits d 0 0 2 (k_if_eq (Go l E YX8_part (d + 1) 0 0 Q 0 0 24) (k_push (.int 2) (k_iload 3 (k_callS l E YX8_partFits d 0 0 2 (k_if_ne (k_aload 0 (k_getR 8 19 0 (k_getI 7 15 1 (k_push (.int 8) (k_icmp_lt (k_aload 0 (k_getR 8 19 0 (k_getI 7 15 1 (k_push (.int 3) (k_imul (k_istore 4 (k_aload 0 (k_getR 8 19 0 (k_getR 7 15 3 (k_iload 4 (k_iload 1 (k_iastore (k_aload 0 (k_getR 8 19 0 (k_getR 7 15 3 (k_iload 4 (k_push (.int 1) (k_iadd (k_iload 2 (k_iastore (k_aload 0 (k_getR 8 19 0 (k_getR 7 15 3 (k_iload 4 (k_push (.int 2) (k_iadd (k_iload 3 (k_iastore (k_aload 0 (k_getR 8 19 0 (k_dup (k_getI 7 15 1 (k_push (.int 1) (k_iadd (k_putI 7 15 1 (k_aload 0 (k_aload 0 (k_getR 8 19 0 (k_getI 7 15 1 (k_push (.int 1) (k_isub (k_callV l E 8 19 YX8_accept d 0 0 1 (k_iret .int Q))))))))))))))))))))))))))))))))))))))))))) (k_aload 0 (k_push (.int (-5)) (k_callV l E 8 19 YX8_refuse d 0 0 1 (k_iret .int Q))))))))) (Go l E YX8_part (d + 1) 0 0 Q 0 0 24))))))))))))
set_option maxRecDepth 100000 in
set_option maxHeartbeats 4000000 in
theorem gX8_part_0 {l : Launch} {E : Ev} {d : Nat} {Q : Option Value → Hp → Prop} {ls : Lv} {st : List Value} {h : Hp} (hB : bX8_part_0 l E d Q ls st h) : Go l E YX8_part (d + 1) 0 0 Q 0 0 0 ls st h :=
  (sd_iconst (v := 0) (by decide) dX8_part_0 (sd_iload_n (i := 1) rfl dX8_part_1 (sd_callS (Y' := YX8_partFits) (mc' := 0) (ms' := 0) (n := 2) mw_512 mw_513 mw_100 mw_514 (okmX8_partFits) (by decide) (Nat.le_refl _) (by decide) (by decide) dX8_part_2 (sd_if_eq (tgt := 24) (by decide) dX8_part_5 (Sd.go) (sd_iconst (v := 1) (by decide) dX8_part_8 (sd_iload_n (i := 2) rfl dX8_part_9 (sd_callS (Y' := YX8_partFits) (mc' := 0) (ms' := 0) (n := 2) mw_512 mw_513 mw_100 mw_514 (okmX8_partFits) (by decide) (Nat.le_refl _) (by decide) (by decide) dX8_part_10 (sd_if_eq (tgt := 24) (by decide) dX8_part_13 (Sd.go) (sd_iconst (v := 2) (by decide) dX8_part_16 (sd_iload_n (i := 3) rfl dX8_part_17 (sd_callS (Y' := YX8_partFits) (mc' := 0) (ms' := 0) (n := 2) mw_512 mw_513 mw_100 mw_514 (okmX8_partFits) (by decide) (Nat.le_refl _) (by decide) (by decide) dX8_part_18 (sd_if_ne (tgt := 30) (by decide) dX8_part_21 (sd_aload_n (i := 0) rfl dX8_part_30 (sd_getR clsX8 (f := 0) (by decide) (fun _ _ _ => rfl) mw_431 dX8_part_31 (sd_getI clsX7 (f := 1) (by decide) (fun _ _ _ => rfl) mw_143 dX8_part_34 (sd_bipush (v := 8) (by decide) dX8_part_37 (sd_icmp_lt (tgt := 49) (by decide) dX8_part_39 (sd_aload_n (i := 0) rfl dX8_part_49 (sd_getR clsX8 (f := 0) (by decide) (fun _ _ _ => rfl) mw_431 dX8_part_50 (sd_getI clsX7 (f := 1) (by decide) (fun _ _ _ => rfl) mw_143 dX8_part_53 (sd_iconst (v := 3) (by decide) dX8_part_56 (sd_imul dX8_part_57 (sd_istore (i := 4) (by decide) dX8_part_58 (sd_aload_n (i := 0) rfl dX8_part_60 (sd_getR clsX8 (f := 0) (by decide) (fun _ _ _ => rfl) mw_431 dX8_part_61 (sd_getR clsX7 (f := 3) (by decide) (fun _ _ _ => rfl) mw_151 dX8_part_64 (sd_iload (n := 4) dX8_part_67 (sd_iload_n (i := 1) rfl dX8_part_69 (sd_iastore dX8_part_70 (sd_aload_n (i := 0) rfl dX8_part_71 (sd_getR clsX8 (f := 0) (by decide) (fun _ _ _ => rfl) mw_431 dX8_part_72 (sd_getR clsX7 (f := 3) (by decide) (fun _ _ _ => rfl) mw_151 dX8_part_75 (sd_iload (n := 4) dX8_part_78 (sd_iconst (v := 1) (by decide) dX8_part_80 (sd_iadd dX8_part_81 (sd_iload_n (i := 2) rfl dX8_part_82 (sd_iastore dX8_part_83 (sd_aload_n (i := 0) rfl dX8_part_84 (sd_getR clsX8 (f := 0) (by decide) (fun _ _ _ => rfl) mw_431 dX8_part_85 (sd_getR clsX7 (f := 3) (by decide) (fun _ _ _ => rfl) mw_151 dX8_part_88 (sd_iload (n := 4) dX8_part_91 (sd_iconst (v := 2) (by decide) dX8_part_93 (sd_iadd dX8_part_94 (sd_iload_n (i := 3) rfl dX8_part_95 (sd_iastore dX8_part_96 (sd_aload_n (i := 0) rfl dX8_part_97 (sd_getR clsX8 (f := 0) (by decide) (fun _ _ _ => rfl) mw_431 dX8_part_98 (sd_dup dX8_part_101 (sd_getI clsX7 (f := 1) (by decide) (fun _ _ _ => rfl) mw_143 dX8_part_102 (sd_iconst (v := 1) (by decide) dX8_part_105 (sd_iadd dX8_part_106 (sd_putI clsX7 (f := 1) (by decide) (fun _ _ _ => rfl) rfl (Or.inl rfl) mw_143 dX8_part_107 (sd_aload_n (i := 0) rfl dX8_part_110 (sd_aload_n (i := 0) rfl dX8_part_111 (sd_getR clsX8 (f := 0) (by decide) (fun _ _ _ => rfl) mw_431 dX8_part_112 (sd_getI clsX7 (f := 1) (by decide) (fun _ _ _ => rfl) mw_143 dX8_part_115 (sd_iconst (v := 1) (by decide) dX8_part_118 (sd_isub dX8_part_119 (sd_callV (Y' := YX8_accept) (mc' := 0) (ms' := 0) (n := 1) clsX8.1 mw_504 mw_506 mw_1 mw_100 mw_507 rfl (okmX8_accept) (by decide) (Nat.le_refl _) (by decide) (by decide) dX8_part_120 (sd_iret (ty := .int) rfl (by decide) (by decide) dX8_part_123))))))))))))))))))))))))))))))))))))))))))) (sd_aload_n (i := 0) rfl dX8_part_42 (sd_bipush (v := (-5)) (by decide) dX8_part_43 (sd_callV (Y' := YX8_refuse) (mc' := 0) (ms' := 0) (n := 1) clsX8.1 mw_500 mw_502 mw_0 mw_100 mw_503 rfl (okmX8_refuse) (by decide) (Nat.le_refl _) (by decide) (by decide) dX8_part_45 (sd_iret (ty := .int) rfl (by decide) (by decide) dX8_part_48))))))))) (Sd.go)))))))))))) : Sd l E YX8_part (d + 1) 0 0 Q 0 0 0 (bX8_part_0 l E d Q)) ls st h hB
def bX8_part_24 (l : Launch) (E : Ev) (d : Nat) (Q : Option Value → Hp → Prop) : Kt := k_aload 0 (k_push (.int (-1)) (k_callV l E 8 19 YX8_refuse d 0 0 1 (k_iret .int Q)))
set_option maxRecDepth 100000 in
set_option maxHeartbeats 4000000 in
theorem gX8_part_24 {l : Launch} {E : Ev} {d : Nat} {Q : Option Value → Hp → Prop} {ls : Lv} {st : List Value} {h : Hp} (hB : bX8_part_24 l E d Q ls st h) : Go l E YX8_part (d + 1) 0 0 Q 0 0 24 ls st h :=
  (sd_aload_n (i := 0) rfl dX8_part_24 (sd_iconst (v := (-1)) (by decide) dX8_part_25 (sd_callV (Y' := YX8_refuse) (mc' := 0) (ms' := 0) (n := 1) clsX8.1 mw_500 mw_502 mw_0 mw_100 mw_503 rfl (okmX8_refuse) (by decide) (Nat.le_refl _) (by decide) (by decide) dX8_part_26 (sd_iret (ty := .int) rfl (by decide) (by decide) dX8_part_29))) : Sd l E YX8_part (d + 1) 0 0 Q 0 0 24 (bX8_part_24 l E d Q)) ls st h hB
theorem eX8_part {l : Launch} {E : Ev} {d : Nat} {Q : Option Value → Hp → Prop} {h : Hp} {a0 : Nat} {x1 : Int32} {x2 : Int32} {x3 : Int32} (hk : Go l E YX8_part d 0 0 Q 0 0 0 [some (.ref a0), some (.int x1), some (.int x2), some (.int x3), none] [] h) : GoM l E YX8_part d 0 0 [.ref a0, .int x1, .int x2, .int x3] h Q := GoM.of (by decide +kernel) rfl (by simp [entA, YX8_part]) hk
theorem dX8_turn_0 : decode cX8_turn 0 = .ok (.iload_n 2, 1) := by decide +kernel
theorem dX8_turn_1 : decode cX8_turn 1 = .ok (.iload_n 3, 1) := by decide +kernel
theorem dX8_turn_2 : decode cX8_turn 2 = .ok (.invokestatic 85, 3) := by decide +kernel
theorem dX8_turn_5 : decode cX8_turn 5 = .ok (.ifCond .ne 9, 3) := by decide +kernel
theorem dX8_turn_8 : decode cX8_turn 8 = .ok (.aload_n 0, 1) := by decide +kernel
theorem dX8_turn_9 : decode cX8_turn 9 = .ok (.iconst (-1), 1) := by decide +kernel
theorem dX8_turn_10 : decode cX8_turn 10 = .ok (.invokevirtual 89, 3) := by decide +kernel
theorem dX8_turn_13 : decode cX8_turn 13 = .ok (.ireturn, 1) := by decide +kernel
theorem dX8_turn_14 : decode cX8_turn 14 = .ok (.aload_n 0, 1) := by decide +kernel
theorem dX8_turn_15 : decode cX8_turn 15 = .ok (.getfield 10, 3) := by decide +kernel
theorem dX8_turn_18 : decode cX8_turn 18 = .ok (.iload_n 1, 1) := by decide +kernel
theorem dX8_turn_19 : decode cX8_turn 19 = .ok (.invokevirtual 111, 3) := by decide +kernel
theorem dX8_turn_22 : decode cX8_turn 22 = .ok (.ifCond .ne 10, 3) := by decide +kernel
theorem dX8_turn_25 : decode cX8_turn 25 = .ok (.aload_n 0, 1) := by decide +kernel
theorem dX8_turn_26 : decode cX8_turn 26 = .ok (.bipush (-2), 2) := by decide +kernel
theorem dX8_turn_28 : decode cX8_turn 28 = .ok (.invokevirtual 89, 3) := by decide +kernel
theorem dX8_turn_31 : decode cX8_turn 31 = .ok (.ireturn, 1) := by decide +kernel
theorem dX8_turn_32 : decode cX8_turn 32 = .ok (.iload_n 1, 1) := by decide +kernel
theorem dX8_turn_33 : decode cX8_turn 33 = .ok (.iconst 4, 1) := by decide +kernel
theorem dX8_turn_34 : decode cX8_turn 34 = .ok (.imul, 1) := by decide +kernel
theorem dX8_turn_35 : decode cX8_turn 35 = .ok (.iload_n 2, 1) := by decide +kernel
theorem dX8_turn_36 : decode cX8_turn 36 = .ok (.iadd, 1) := by decide +kernel
theorem dX8_turn_37 : decode cX8_turn 37 = .ok (.istore 4, 2) := by decide +kernel
theorem dX8_turn_39 : decode cX8_turn 39 = .ok (.aload_n 0, 1) := by decide +kernel
theorem dX8_turn_40 : decode cX8_turn 40 = .ok (.getfield 10, 3) := by decide +kernel
theorem dX8_turn_43 : decode cX8_turn 43 = .ok (.getfield 96, 3) := by decide +kernel
theorem dX8_turn_46 : decode cX8_turn 46 = .ok (.iload 4, 2) := by decide +kernel
theorem dX8_turn_48 : decode cX8_turn 48 = .ok (.iaload, 1) := by decide +kernel
theorem dX8_turn_49 : decode cX8_turn 49 = .ok (.istore 5, 2) := by decide +kernel
theorem dX8_turn_51 : decode cX8_turn 51 = .ok (.aload_n 0, 1) := by decide +kernel
theorem dX8_turn_52 : decode cX8_turn 52 = .ok (.getfield 10, 3) := by decide +kernel
theorem dX8_turn_55 : decode cX8_turn 55 = .ok (.getfield 96, 3) := by decide +kernel
theorem dX8_turn_58 : decode cX8_turn 58 = .ok (.iload 4, 2) := by decide +kernel
theorem dX8_turn_60 : decode cX8_turn 60 = .ok (.iload_n 3, 1) := by decide +kernel
theorem dX8_turn_61 : decode cX8_turn 61 = .ok (.iastore, 1) := by decide +kernel
theorem dX8_turn_62 : decode cX8_turn 62 = .ok (.aload_n 0, 1) := by decide +kernel
theorem dX8_turn_63 : decode cX8_turn 63 = .ok (.iload 5, 2) := by decide +kernel
theorem dX8_turn_65 : decode cX8_turn 65 = .ok (.invokevirtual 99, 3) := by decide +kernel
theorem dX8_turn_68 : decode cX8_turn 68 = .ok (.ireturn, 1) := by decide +kernel
def bX8_turn_0 (l : Launch) (E : Ev) (d : Nat) (Q : Option Value → Hp → Prop) : Kt := k_iload 2 (k_iload 3 (k_callS l E YX8_actorFits d 0 0 2 (k_if_ne (k_aload 0 (k_getR 8 19 0 (k_iload 1 (k_callV l E 7 15 YX7_hasActor d 0 0 1 (k_if_ne (k_iload 1 (k_push (.int 4) (k_imul (k_iload 2 (k_iadd (k_istore 4 (k_aload 0 (k_getR 8 19 0 (k_getR 7 15 2 (k_iload 4 (k_iaload (k_istore 5 (k_aload 0 (k_getR 8 19 0 (k_getR 7 15 2 (k_iload 4 (k_iload 3 (k_iastore (k_aload 0 (k_iload 5 (k_callV l E 8 19 YX8_accept d 0 0 1 (k_iret .int Q)))))))))))))))))))))) (k_aload 0 (k_push (.int (-2)) (k_callV l E 8 19 YX8_refuse d 0 0 1 (k_iret .int Q))))))))) (k_aload 0 (k_push (.int (-1)) (k_callV l E 8 19 YX8_refuse d 0 0 1 (k_iret .int Q)))))))
set_option maxRecDepth 100000 in
set_option maxHeartbeats 4000000 in
theorem gX8_turn_0 {l : Launch} {E : Ev} {d : Nat} {Q : Option Value → Hp → Prop} {ls : Lv} {st : List Value} {h : Hp} (hB : bX8_turn_0 l E d Q ls st h) : Go l E YX8_turn (d + 1) 0 0 Q 0 0 0 ls st h :=
  (sd_iload_n (i := 2) rfl dX8_turn_0 (sd_iload_n (i := 3) rfl dX8_turn_1 (sd_callS (Y' := YX8_actorFits) (mc' := 0) (ms' := 0) (n := 2) mw_493 mw_494 mw_100 mw_495 (okmX8_actorFits) (by decide) (Nat.le_refl _) (by decide) (by decide) dX8_turn_2 (sd_if_ne (tgt := 14) (by decide) dX8_turn_5 (sd_aload_n (i := 0) rfl dX8_turn_14 (sd_getR clsX8 (f := 0) (by decide) (fun _ _ _ => rfl) mw_431 dX8_turn_15 (sd_iload_n (i := 1) rfl dX8_turn_18 (sd_callV (Y' := YX7_hasActor) (mc' := 0) (ms' := 0) (n := 1) clsX7.1 mw_521 mw_522 mw_523 mw_101 mw_524 rfl (okmX7_hasActor) (by decide) (Nat.le_refl _) (by decide) (by decide) dX8_turn_19 (sd_if_ne (tgt := 32) (by decide) dX8_turn_22 (sd_iload_n (i := 1) rfl dX8_turn_32 (sd_iconst (v := 4) (by decide) dX8_turn_33 (sd_imul dX8_turn_34 (sd_iload_n (i := 2) rfl dX8_turn_35 (sd_iadd dX8_turn_36 (sd_istore (i := 4) (by decide) dX8_turn_37 (sd_aload_n (i := 0) rfl dX8_turn_39 (sd_getR clsX8 (f := 0) (by decide) (fun _ _ _ => rfl) mw_431 dX8_turn_40 (sd_getR clsX7 (f := 2) (by decide) (fun _ _ _ => rfl) mw_145 dX8_turn_43 (sd_iload (n := 4) dX8_turn_46 (sd_iaload dX8_turn_48 (sd_istore (i := 5) (by decide) dX8_turn_49 (sd_aload_n (i := 0) rfl dX8_turn_51 (sd_getR clsX8 (f := 0) (by decide) (fun _ _ _ => rfl) mw_431 dX8_turn_52 (sd_getR clsX7 (f := 2) (by decide) (fun _ _ _ => rfl) mw_145 dX8_turn_55 (sd_iload (n := 4) dX8_turn_58 (sd_iload_n (i := 3) rfl dX8_turn_60 (sd_iastore dX8_turn_61 (sd_aload_n (i := 0) rfl dX8_turn_62 (sd_iload (n := 5) dX8_turn_63 (sd_callV (Y' := YX8_accept) (mc' := 0) (ms' := 0) (n := 1) clsX8.1 mw_504 mw_506 mw_1 mw_100 mw_507 rfl (okmX8_accept) (by decide) (Nat.le_refl _) (by decide) (by decide) dX8_turn_65 (sd_iret (ty := .int) rfl (by decide) (by decide) dX8_turn_68)))))))))))))))))))))) (sd_aload_n (i := 0) rfl dX8_turn_25 (sd_bipush (v := (-2)) (by decide) dX8_turn_26 (sd_callV (Y' := YX8_refuse) (mc' := 0) (ms' := 0) (n := 1) clsX8.1 mw_500 mw_502 mw_0 mw_100 mw_503 rfl (okmX8_refuse) (by decide) (Nat.le_refl _) (by decide) (by decide) dX8_turn_28 (sd_iret (ty := .int) rfl (by decide) (by decide) dX8_turn_31))))))))) (sd_aload_n (i := 0) rfl dX8_turn_8 (sd_iconst (v := (-1)) (by decide) dX8_turn_9 (sd_callV (Y' := YX8_refuse) (mc' := 0) (ms' := 0) (n := 1) clsX8.1 mw_500 mw_502 mw_0 mw_100 mw_503 rfl (okmX8_refuse) (by decide) (Nat.le_refl _) (by decide) (by decide) dX8_turn_10 (sd_iret (ty := .int) rfl (by decide) (by decide) dX8_turn_13))))))) : Sd l E YX8_turn (d + 1) 0 0 Q 0 0 0 (bX8_turn_0 l E d Q)) ls st h hB
theorem eX8_turn {l : Launch} {E : Ev} {d : Nat} {Q : Option Value → Hp → Prop} {h : Hp} {a0 : Nat} {x1 : Int32} {x2 : Int32} {x3 : Int32} (hk : Go l E YX8_turn d 0 0 Q 0 0 0 [some (.ref a0), some (.int x1), some (.int x2), some (.int x3), none, none] [] h) : GoM l E YX8_turn d 0 0 [.ref a0, .int x1, .int x2, .int x3] h Q := GoM.of (by decide +kernel) rfl (by simp [entA, YX8_turn]) hk
theorem dX8_alter_0 : decode cX8_alter 0 = .ok (.iload_n 2, 1) := by decide +kernel
theorem dX8_alter_1 : decode cX8_alter 1 = .ok (.iload_n 3, 1) := by decide +kernel
theorem dX8_alter_2 : decode cX8_alter 2 = .ok (.invokestatic 102, 3) := by decide +kernel
theorem dX8_alter_5 : decode cX8_alter 5 = .ok (.ifCond .ne 9, 3) := by decide +kernel
theorem dX8_alter_8 : decode cX8_alter 8 = .ok (.aload_n 0, 1) := by decide +kernel
theorem dX8_alter_9 : decode cX8_alter 9 = .ok (.iconst (-1), 1) := by decide +kernel
theorem dX8_alter_10 : decode cX8_alter 10 = .ok (.invokevirtual 89, 3) := by decide +kernel
theorem dX8_alter_13 : decode cX8_alter 13 = .ok (.ireturn, 1) := by decide +kernel
theorem dX8_alter_14 : decode cX8_alter 14 = .ok (.aload_n 0, 1) := by decide +kernel
theorem dX8_alter_15 : decode cX8_alter 15 = .ok (.getfield 10, 3) := by decide +kernel
theorem dX8_alter_18 : decode cX8_alter 18 = .ok (.iload_n 1, 1) := by decide +kernel
theorem dX8_alter_19 : decode cX8_alter 19 = .ok (.invokevirtual 115, 3) := by decide +kernel
theorem dX8_alter_22 : decode cX8_alter 22 = .ok (.ifCond .ne 10, 3) := by decide +kernel
theorem dX8_alter_25 : decode cX8_alter 25 = .ok (.aload_n 0, 1) := by decide +kernel
theorem dX8_alter_26 : decode cX8_alter 26 = .ok (.bipush (-2), 2) := by decide +kernel
theorem dX8_alter_28 : decode cX8_alter 28 = .ok (.invokevirtual 89, 3) := by decide +kernel
theorem dX8_alter_31 : decode cX8_alter 31 = .ok (.ireturn, 1) := by decide +kernel
theorem dX8_alter_32 : decode cX8_alter 32 = .ok (.iload_n 1, 1) := by decide +kernel
theorem dX8_alter_33 : decode cX8_alter 33 = .ok (.iconst 3, 1) := by decide +kernel
theorem dX8_alter_34 : decode cX8_alter 34 = .ok (.imul, 1) := by decide +kernel
theorem dX8_alter_35 : decode cX8_alter 35 = .ok (.iload_n 2, 1) := by decide +kernel
theorem dX8_alter_36 : decode cX8_alter 36 = .ok (.iadd, 1) := by decide +kernel
theorem dX8_alter_37 : decode cX8_alter 37 = .ok (.istore 4, 2) := by decide +kernel
theorem dX8_alter_39 : decode cX8_alter 39 = .ok (.aload_n 0, 1) := by decide +kernel
theorem dX8_alter_40 : decode cX8_alter 40 = .ok (.getfield 10, 3) := by decide +kernel
theorem dX8_alter_43 : decode cX8_alter 43 = .ok (.getfield 108, 3) := by decide +kernel
theorem dX8_alter_46 : decode cX8_alter 46 = .ok (.iload 4, 2) := by decide +kernel
theorem dX8_alter_48 : decode cX8_alter 48 = .ok (.iaload, 1) := by decide +kernel
theorem dX8_alter_49 : decode cX8_alter 49 = .ok (.istore 5, 2) := by decide +kernel
theorem dX8_alter_51 : decode cX8_alter 51 = .ok (.aload_n 0, 1) := by decide +kernel
theorem dX8_alter_52 : decode cX8_alter 52 = .ok (.getfield 10, 3) := by decide +kernel
theorem dX8_alter_55 : decode cX8_alter 55 = .ok (.getfield 108, 3) := by decide +kernel
theorem dX8_alter_58 : decode cX8_alter 58 = .ok (.iload 4, 2) := by decide +kernel
theorem dX8_alter_60 : decode cX8_alter 60 = .ok (.iload_n 3, 1) := by decide +kernel
theorem dX8_alter_61 : decode cX8_alter 61 = .ok (.iastore, 1) := by decide +kernel
theorem dX8_alter_62 : decode cX8_alter 62 = .ok (.aload_n 0, 1) := by decide +kernel
theorem dX8_alter_63 : decode cX8_alter 63 = .ok (.iload 5, 2) := by decide +kernel
theorem dX8_alter_65 : decode cX8_alter 65 = .ok (.invokevirtual 99, 3) := by decide +kernel
theorem dX8_alter_68 : decode cX8_alter 68 = .ok (.ireturn, 1) := by decide +kernel
def bX8_alter_0 (l : Launch) (E : Ev) (d : Nat) (Q : Option Value → Hp → Prop) : Kt := k_iload 2 (k_iload 3 (k_callS l E YX8_partFits d 0 0 2 (k_if_ne (k_aload 0 (k_getR 8 19 0 (k_iload 1 (k_callV l E 7 15 YX7_hasPart d 0 0 1 (k_if_ne (k_iload 1 (k_push (.int 3) (k_imul (k_iload 2 (k_iadd (k_istore 4 (k_aload 0 (k_getR 8 19 0 (k_getR 7 15 3 (k_iload 4 (k_iaload (k_istore 5 (k_aload 0 (k_getR 8 19 0 (k_getR 7 15 3 (k_iload 4 (k_iload 3 (k_iastore (k_aload 0 (k_iload 5 (k_callV l E 8 19 YX8_accept d 0 0 1 (k_iret .int Q)))))))))))))))))))))) (k_aload 0 (k_push (.int (-2)) (k_callV l E 8 19 YX8_refuse d 0 0 1 (k_iret .int Q))))))))) (k_aload 0 (k_push (.int (-1)) (k_callV l E 8 19 YX8_refuse d 0 0 1 (k_iret .int Q)))))))
set_option maxRecDepth 100000 in
set_option maxHeartbeats 4000000 in
theorem gX8_alter_0 {l : Launch} {E : Ev} {d : Nat} {Q : Option Value → Hp → Prop} {ls : Lv} {st : List Value} {h : Hp} (hB : bX8_alter_0 l E d Q ls st h) : Go l E YX8_alter (d + 1) 0 0 Q 0 0 0 ls st h :=
  (sd_iload_n (i := 2) rfl dX8_alter_0 (sd_iload_n (i := 3) rfl dX8_alter_1 (sd_callS (Y' := YX8_partFits) (mc' := 0) (ms' := 0) (n := 2) mw_512 mw_513 mw_100 mw_514 (okmX8_partFits) (by decide) (Nat.le_refl _) (by decide) (by decide) dX8_alter_2 (sd_if_ne (tgt := 14) (by decide) dX8_alter_5 (sd_aload_n (i := 0) rfl dX8_alter_14 (sd_getR clsX8 (f := 0) (by decide) (fun _ _ _ => rfl) mw_431 dX8_alter_15 (sd_iload_n (i := 1) rfl dX8_alter_18 (sd_callV (Y' := YX7_hasPart) (mc' := 0) (ms' := 0) (n := 1) clsX7.1 mw_529 mw_530 mw_531 mw_101 mw_532 rfl (okmX7_hasPart) (by decide) (Nat.le_refl _) (by decide) (by decide) dX8_alter_19 (sd_if_ne (tgt := 32) (by decide) dX8_alter_22 (sd_iload_n (i := 1) rfl dX8_alter_32 (sd_iconst (v := 3) (by decide) dX8_alter_33 (sd_imul dX8_alter_34 (sd_iload_n (i := 2) rfl dX8_alter_35 (sd_iadd dX8_alter_36 (sd_istore (i := 4) (by decide) dX8_alter_37 (sd_aload_n (i := 0) rfl dX8_alter_39 (sd_getR clsX8 (f := 0) (by decide) (fun _ _ _ => rfl) mw_431 dX8_alter_40 (sd_getR clsX7 (f := 3) (by decide) (fun _ _ _ => rfl) mw_151 dX8_alter_43 (sd_iload (n := 4) dX8_alter_46 (sd_iaload dX8_alter_48 (sd_istore (i := 5) (by decide) dX8_alter_49 (sd_aload_n (i := 0) rfl dX8_alter_51 (sd_getR clsX8 (f := 0) (by decide) (fun _ _ _ => rfl) mw_431 dX8_alter_52 (sd_getR clsX7 (f := 3) (by decide) (fun _ _ _ => rfl) mw_151 dX8_alter_55 (sd_iload (n := 4) dX8_alter_58 (sd_iload_n (i := 3) rfl dX8_alter_60 (sd_iastore dX8_alter_61 (sd_aload_n (i := 0) rfl dX8_alter_62 (sd_iload (n := 5) dX8_alter_63 (sd_callV (Y' := YX8_accept) (mc' := 0) (ms' := 0) (n := 1) clsX8.1 mw_504 mw_506 mw_1 mw_100 mw_507 rfl (okmX8_accept) (by decide) (Nat.le_refl _) (by decide) (by decide) dX8_alter_65 (sd_iret (ty := .int) rfl (by decide) (by decide) dX8_alter_68)))))))))))))))))))))) (sd_aload_n (i := 0) rfl dX8_alter_25 (sd_bipush (v := (-2)) (by decide) dX8_alter_26 (sd_callV (Y' := YX8_refuse) (mc' := 0) (ms' := 0) (n := 1) clsX8.1 mw_500 mw_502 mw_0 mw_100 mw_503 rfl (okmX8_refuse) (by decide) (Nat.le_refl _) (by decide) (by decide) dX8_alter_28 (sd_iret (ty := .int) rfl (by decide) (by decide) dX8_alter_31))))))))) (sd_aload_n (i := 0) rfl dX8_alter_8 (sd_iconst (v := (-1)) (by decide) dX8_alter_9 (sd_callV (Y' := YX8_refuse) (mc' := 0) (ms' := 0) (n := 1) clsX8.1 mw_500 mw_502 mw_0 mw_100 mw_503 rfl (okmX8_refuse) (by decide) (Nat.le_refl _) (by decide) (by decide) dX8_alter_10 (sd_iret (ty := .int) rfl (by decide) (by decide) dX8_alter_13))))))) : Sd l E YX8_alter (d + 1) 0 0 Q 0 0 0 (bX8_alter_0 l E d Q)) ls st h hB
theorem eX8_alter {l : Launch} {E : Ev} {d : Nat} {Q : Option Value → Hp → Prop} {h : Hp} {a0 : Nat} {x1 : Int32} {x2 : Int32} {x3 : Int32} (hk : Go l E YX8_alter d 0 0 Q 0 0 0 [some (.ref a0), some (.int x1), some (.int x2), some (.int x3), none, none] [] h) : GoM l E YX8_alter d 0 0 [.ref a0, .int x1, .int x2, .int x3] h Q := GoM.of (by decide +kernel) rfl (by simp [entA, YX8_alter]) hk
theorem dX8_usual_0 : decode cX8_usual 0 = .ok (.aload_n 0, 1) := by decide +kernel
theorem dX8_usual_1 : decode cX8_usual 1 = .ok (.getfield 10, 3) := by decide +kernel
theorem dX8_usual_4 : decode cX8_usual 4 = .ok (.iload_n 1, 1) := by decide +kernel
theorem dX8_usual_5 : decode cX8_usual 5 = .ok (.invokevirtual 115, 3) := by decide +kernel
theorem dX8_usual_8 : decode cX8_usual 8 = .ok (.ifCond .eq 19, 3) := by decide +kernel
theorem dX8_usual_11 : decode cX8_usual 11 = .ok (.iload_n 2, 1) := by decide +kernel
theorem dX8_usual_12 : decode cX8_usual 12 = .ok (.iconst (-1), 1) := by decide +kernel
theorem dX8_usual_13 : decode cX8_usual 13 = .ok (.if_icmp .eq 21, 3) := by decide +kernel
theorem dX8_usual_16 : decode cX8_usual 16 = .ok (.aload_n 0, 1) := by decide +kernel
theorem dX8_usual_17 : decode cX8_usual 17 = .ok (.getfield 10, 3) := by decide +kernel
theorem dX8_usual_20 : decode cX8_usual 20 = .ok (.iload_n 2, 1) := by decide +kernel
theorem dX8_usual_21 : decode cX8_usual 21 = .ok (.invokevirtual 111, 3) := by decide +kernel
theorem dX8_usual_24 : decode cX8_usual 24 = .ok (.ifCond .ne 10, 3) := by decide +kernel
theorem dX8_usual_27 : decode cX8_usual 27 = .ok (.aload_n 0, 1) := by decide +kernel
theorem dX8_usual_28 : decode cX8_usual 28 = .ok (.bipush (-2), 2) := by decide +kernel
theorem dX8_usual_30 : decode cX8_usual 30 = .ok (.invokevirtual 89, 3) := by decide +kernel
theorem dX8_usual_33 : decode cX8_usual 33 = .ok (.ireturn, 1) := by decide +kernel
theorem dX8_usual_34 : decode cX8_usual 34 = .ok (.aload_n 0, 1) := by decide +kernel
theorem dX8_usual_35 : decode cX8_usual 35 = .ok (.getfield 10, 3) := by decide +kernel
theorem dX8_usual_38 : decode cX8_usual 38 = .ok (.getfield 118, 3) := by decide +kernel
theorem dX8_usual_41 : decode cX8_usual 41 = .ok (.iload_n 1, 1) := by decide +kernel
theorem dX8_usual_42 : decode cX8_usual 42 = .ok (.iaload, 1) := by decide +kernel
theorem dX8_usual_43 : decode cX8_usual 43 = .ok (.istore_n 3, 1) := by decide +kernel
theorem dX8_usual_44 : decode cX8_usual 44 = .ok (.aload_n 0, 1) := by decide +kernel
theorem dX8_usual_45 : decode cX8_usual 45 = .ok (.getfield 10, 3) := by decide +kernel
theorem dX8_usual_48 : decode cX8_usual 48 = .ok (.getfield 118, 3) := by decide +kernel
theorem dX8_usual_51 : decode cX8_usual 51 = .ok (.iload_n 1, 1) := by decide +kernel
theorem dX8_usual_52 : decode cX8_usual 52 = .ok (.iload_n 2, 1) := by decide +kernel
theorem dX8_usual_53 : decode cX8_usual 53 = .ok (.iastore, 1) := by decide +kernel
theorem dX8_usual_54 : decode cX8_usual 54 = .ok (.aload_n 0, 1) := by decide +kernel
theorem dX8_usual_55 : decode cX8_usual 55 = .ok (.iload_n 3, 1) := by decide +kernel
theorem dX8_usual_56 : decode cX8_usual 56 = .ok (.invokevirtual 99, 3) := by decide +kernel
theorem dX8_usual_59 : decode cX8_usual 59 = .ok (.ireturn, 1) := by decide +kernel
def bX8_usual_0 (l : Launch) (E : Ev) (d : Nat) (Q : Option Value → Hp → Prop) : Kt := k_aload 0 (k_getR 8 19 0 (k_iload 1 (k_callV l E 7 15 YX7_hasPart d 0 0 1 (k_if_eq (Go l E YX8_usual (d + 1) 0 0 Q 0 0 27) (k_iload 2 (k_push (.int (-1)) (k_icmp_eq (Go l E YX8_usual (d + 1) 0 0 Q 0 0 34) (k_aload 0 (k_getR 8 19 0 (k_iload 2 (k_callV l E 7 15 YX7_hasActor d 0 0 1 (k_if_ne (Go l E YX8_usual (d + 1) 0 0 Q 0 0 34) (Go l E YX8_usual (d + 1) 0 0 Q 0 0 27)))))))))))))
set_option maxRecDepth 100000 in
set_option maxHeartbeats 4000000 in
theorem gX8_usual_0 {l : Launch} {E : Ev} {d : Nat} {Q : Option Value → Hp → Prop} {ls : Lv} {st : List Value} {h : Hp} (hB : bX8_usual_0 l E d Q ls st h) : Go l E YX8_usual (d + 1) 0 0 Q 0 0 0 ls st h :=
  (sd_aload_n (i := 0) rfl dX8_usual_0 (sd_getR clsX8 (f := 0) (by decide) (fun _ _ _ => rfl) mw_431 dX8_usual_1 (sd_iload_n (i := 1) rfl dX8_usual_4 (sd_callV (Y' := YX7_hasPart) (mc' := 0) (ms' := 0) (n := 1) clsX7.1 mw_529 mw_530 mw_531 mw_101 mw_532 rfl (okmX7_hasPart) (by decide) (Nat.le_refl _) (by decide) (by decide) dX8_usual_5 (sd_if_eq (tgt := 27) (by decide) dX8_usual_8 (Sd.go) (sd_iload_n (i := 2) rfl dX8_usual_11 (sd_iconst (v := (-1)) (by decide) dX8_usual_12 (sd_icmp_eq (tgt := 34) (by decide) dX8_usual_13 (Sd.go) (sd_aload_n (i := 0) rfl dX8_usual_16 (sd_getR clsX8 (f := 0) (by decide) (fun _ _ _ => rfl) mw_431 dX8_usual_17 (sd_iload_n (i := 2) rfl dX8_usual_20 (sd_callV (Y' := YX7_hasActor) (mc' := 0) (ms' := 0) (n := 1) clsX7.1 mw_521 mw_522 mw_523 mw_101 mw_524 rfl (okmX7_hasActor) (by decide) (Nat.le_refl _) (by decide) (by decide) dX8_usual_21 (sd_if_ne (tgt := 34) (by decide) dX8_usual_24 (Sd.go) (Sd.go))))))))))))) : Sd l E YX8_usual (d + 1) 0 0 Q 0 0 0 (bX8_usual_0 l E d Q)) ls st h hB
def bX8_usual_27 (l : Launch) (E : Ev) (d : Nat) (Q : Option Value → Hp → Prop) : Kt := k_aload 0 (k_push (.int (-2)) (k_callV l E 8 19 YX8_refuse d 0 0 1 (k_iret .int Q)))
set_option maxRecDepth 100000 in
set_option maxHeartbeats 4000000 in
theorem gX8_usual_27 {l : Launch} {E : Ev} {d : Nat} {Q : Option Value → Hp → Prop} {ls : Lv} {st : List Value} {h : Hp} (hB : bX8_usual_27 l E d Q ls st h) : Go l E YX8_usual (d + 1) 0 0 Q 0 0 27 ls st h :=
  (sd_aload_n (i := 0) rfl dX8_usual_27 (sd_bipush (v := (-2)) (by decide) dX8_usual_28 (sd_callV (Y' := YX8_refuse) (mc' := 0) (ms' := 0) (n := 1) clsX8.1 mw_500 mw_502 mw_0 mw_100 mw_503 rfl (okmX8_refuse) (by decide) (Nat.le_refl _) (by decide) (by decide) dX8_usual_30 (sd_iret (ty := .int) rfl (by decide) (by decide) dX8_usual_33))) : Sd l E YX8_usual (d + 1) 0 0 Q 0 0 27 (bX8_usual_27 l E d Q)) ls st h hB
def bX8_usual_34 (l : Launch) (E : Ev) (d : Nat) (Q : Option Value → Hp → Prop) : Kt := k_aload 0 (k_getR 8 19 0 (k_getR 7 15 4 (k_iload 1 (k_iaload (k_istore 3 (k_aload 0 (k_getR 8 19 0 (k_getR 7 15 4 (k_iload 1 (k_iload 2 (k_iastore (k_aload 0 (k_iload 3 (k_callV l E 8 19 YX8_accept d 0 0 1 (k_iret .int Q)))))))))))))))
set_option maxRecDepth 100000 in
set_option maxHeartbeats 4000000 in
theorem gX8_usual_34 {l : Launch} {E : Ev} {d : Nat} {Q : Option Value → Hp → Prop} {ls : Lv} {st : List Value} {h : Hp} (hB : bX8_usual_34 l E d Q ls st h) : Go l E YX8_usual (d + 1) 0 0 Q 0 0 34 ls st h :=
  (sd_aload_n (i := 0) rfl dX8_usual_34 (sd_getR clsX8 (f := 0) (by decide) (fun _ _ _ => rfl) mw_431 dX8_usual_35 (sd_getR clsX7 (f := 4) (by decide) (fun _ _ _ => rfl) mw_155 dX8_usual_38 (sd_iload_n (i := 1) rfl dX8_usual_41 (sd_iaload dX8_usual_42 (sd_istore_n (i := 3) rfl (by decide) dX8_usual_43 (sd_aload_n (i := 0) rfl dX8_usual_44 (sd_getR clsX8 (f := 0) (by decide) (fun _ _ _ => rfl) mw_431 dX8_usual_45 (sd_getR clsX7 (f := 4) (by decide) (fun _ _ _ => rfl) mw_155 dX8_usual_48 (sd_iload_n (i := 1) rfl dX8_usual_51 (sd_iload_n (i := 2) rfl dX8_usual_52 (sd_iastore dX8_usual_53 (sd_aload_n (i := 0) rfl dX8_usual_54 (sd_iload_n (i := 3) rfl dX8_usual_55 (sd_callV (Y' := YX8_accept) (mc' := 0) (ms' := 0) (n := 1) clsX8.1 mw_504 mw_506 mw_1 mw_100 mw_507 rfl (okmX8_accept) (by decide) (Nat.le_refl _) (by decide) (by decide) dX8_usual_56 (sd_iret (ty := .int) rfl (by decide) (by decide) dX8_usual_59))))))))))))))) : Sd l E YX8_usual (d + 1) 0 0 Q 0 0 34 (bX8_usual_34 l E d Q)) ls st h hB
theorem eX8_usual {l : Launch} {E : Ev} {d : Nat} {Q : Option Value → Hp → Prop} {h : Hp} {a0 : Nat} {x1 : Int32} {x2 : Int32} (hk : Go l E YX8_usual d 0 0 Q 0 0 0 [some (.ref a0), some (.int x1), some (.int x2), none] [] h) : GoM l E YX8_usual d 0 0 [.ref a0, .int x1, .int x2] h Q := GoM.of (by decide +kernel) rfl (by simp [entA, YX8_usual]) hk
theorem dX8_knows_0 : decode cX8_knows 0 = .ok (.iload_n 3, 1) := by decide +kernel
theorem dX8_knows_1 : decode cX8_knows 1 = .ok (.ifCond .lt 9, 3) := by decide +kernel
theorem dX8_knows_4 : decode cX8_knows 4 = .ok (.iload_n 3, 1) := by decide +kernel
theorem dX8_knows_5 : decode cX8_knows 5 = .ok (.bipush 9, 2) := by decide +kernel
theorem dX8_knows_7 : decode cX8_knows 7 = .ok (.if_icmp .le 9, 3) := by decide +kernel
theorem dX8_knows_10 : decode cX8_knows 10 = .ok (.aload_n 0, 1) := by decide +kernel
theorem dX8_knows_11 : decode cX8_knows 11 = .ok (.iconst (-1), 1) := by decide +kernel
theorem dX8_knows_12 : decode cX8_knows 12 = .ok (.invokevirtual 89, 3) := by decide +kernel
theorem dX8_knows_15 : decode cX8_knows 15 = .ok (.ireturn, 1) := by decide +kernel
theorem dX8_knows_16 : decode cX8_knows 16 = .ok (.aload_n 0, 1) := by decide +kernel
theorem dX8_knows_17 : decode cX8_knows 17 = .ok (.getfield 10, 3) := by decide +kernel
theorem dX8_knows_20 : decode cX8_knows 20 = .ok (.iload_n 1, 1) := by decide +kernel
theorem dX8_knows_21 : decode cX8_knows 21 = .ok (.iload_n 2, 1) := by decide +kernel
theorem dX8_knows_22 : decode cX8_knows 22 = .ok (.invokevirtual 121, 3) := by decide +kernel
theorem dX8_knows_25 : decode cX8_knows 25 = .ok (.ifCond .ne 10, 3) := by decide +kernel
theorem dX8_knows_28 : decode cX8_knows 28 = .ok (.aload_n 0, 1) := by decide +kernel
theorem dX8_knows_29 : decode cX8_knows 29 = .ok (.bipush (-2), 2) := by decide +kernel
theorem dX8_knows_31 : decode cX8_knows 31 = .ok (.invokevirtual 89, 3) := by decide +kernel
theorem dX8_knows_34 : decode cX8_knows 34 = .ok (.ireturn, 1) := by decide +kernel
theorem dX8_knows_35 : decode cX8_knows 35 = .ok (.iload_n 1, 1) := by decide +kernel
theorem dX8_knows_36 : decode cX8_knows 36 = .ok (.bipush 8, 2) := by decide +kernel
theorem dX8_knows_38 : decode cX8_knows 38 = .ok (.imul, 1) := by decide +kernel
theorem dX8_knows_39 : decode cX8_knows 39 = .ok (.iload_n 2, 1) := by decide +kernel
theorem dX8_knows_40 : decode cX8_knows 40 = .ok (.iadd, 1) := by decide +kernel
theorem dX8_knows_41 : decode cX8_knows 41 = .ok (.istore 4, 2) := by decide +kernel
theorem dX8_knows_43 : decode cX8_knows 43 = .ok (.aload_n 0, 1) := by decide +kernel
theorem dX8_knows_44 : decode cX8_knows 44 = .ok (.getfield 10, 3) := by decide +kernel
theorem dX8_knows_47 : decode cX8_knows 47 = .ok (.getfield 124, 3) := by decide +kernel
theorem dX8_knows_50 : decode cX8_knows 50 = .ok (.iload 4, 2) := by decide +kernel
theorem dX8_knows_52 : decode cX8_knows 52 = .ok (.iaload, 1) := by decide +kernel
theorem dX8_knows_53 : decode cX8_knows 53 = .ok (.istore 5, 2) := by decide +kernel
theorem dX8_knows_55 : decode cX8_knows 55 = .ok (.aload_n 0, 1) := by decide +kernel
theorem dX8_knows_56 : decode cX8_knows 56 = .ok (.getfield 10, 3) := by decide +kernel
theorem dX8_knows_59 : decode cX8_knows 59 = .ok (.getfield 124, 3) := by decide +kernel
theorem dX8_knows_62 : decode cX8_knows 62 = .ok (.iload 4, 2) := by decide +kernel
theorem dX8_knows_64 : decode cX8_knows 64 = .ok (.iload_n 3, 1) := by decide +kernel
theorem dX8_knows_65 : decode cX8_knows 65 = .ok (.iastore, 1) := by decide +kernel
theorem dX8_knows_66 : decode cX8_knows 66 = .ok (.aload_n 0, 1) := by decide +kernel
theorem dX8_knows_67 : decode cX8_knows 67 = .ok (.iload 5, 2) := by decide +kernel
theorem dX8_knows_69 : decode cX8_knows 69 = .ok (.invokevirtual 99, 3) := by decide +kernel
theorem dX8_knows_72 : decode cX8_knows 72 = .ok (.ireturn, 1) := by decide +kernel
def bX8_knows_0 (l : Launch) (E : Ev) (d : Nat) (Q : Option Value → Hp → Prop) : Kt := k_iload 3 (k_if_lt (Go l E YX8_knows (d + 1) 0 0 Q 0 0 10) (k_iload 3 (k_push (.int 9) (k_icmp_le (k_aload 0 (k_getR 8 19 0 (k_iload 1 (k_iload 2 (k_callV l E 7 15 YX7_hasBoth d 0 0 2 (k_if_ne (k_iload 1 (k_push (.int 8) (k_imul (k_iload 2 (k_iadd (k_istore 4 (k_aload 0 (k_getR 8 19 0 (k_getR 7 15 5 (k_iload 4 (k_iaload (k_istore 5 (k_aload 0 (k_getR 8 19 0 (k_getR 7 15 5 (k_iload 4 (k_iload 3 (k_iastore (k_aload 0 (k_iload 5 (k_callV l E 8 19 YX8_accept d 0 0 1 (k_iret .int Q)))))))))))))))))))))) (k_aload 0 (k_push (.int (-2)) (k_callV l E 8 19 YX8_refuse d 0 0 1 (k_iret .int Q)))))))))) (Go l E YX8_knows (d + 1) 0 0 Q 0 0 10)))))
set_option maxRecDepth 100000 in
set_option maxHeartbeats 4000000 in
theorem gX8_knows_0 {l : Launch} {E : Ev} {d : Nat} {Q : Option Value → Hp → Prop} {ls : Lv} {st : List Value} {h : Hp} (hB : bX8_knows_0 l E d Q ls st h) : Go l E YX8_knows (d + 1) 0 0 Q 0 0 0 ls st h :=
  (sd_iload_n (i := 3) rfl dX8_knows_0 (sd_if_lt (tgt := 10) (by decide) dX8_knows_1 (Sd.go) (sd_iload_n (i := 3) rfl dX8_knows_4 (sd_bipush (v := 9) (by decide) dX8_knows_5 (sd_icmp_le (tgt := 16) (by decide) dX8_knows_7 (sd_aload_n (i := 0) rfl dX8_knows_16 (sd_getR clsX8 (f := 0) (by decide) (fun _ _ _ => rfl) mw_431 dX8_knows_17 (sd_iload_n (i := 1) rfl dX8_knows_20 (sd_iload_n (i := 2) rfl dX8_knows_21 (sd_callV (Y' := YX7_hasBoth) (mc' := 0) (ms' := 0) (n := 2) clsX7.1 mw_541 mw_542 mw_543 mw_101 mw_544 rfl (okmX7_hasBoth) (by decide) (Nat.le_refl _) (by decide) (by decide) dX8_knows_22 (sd_if_ne (tgt := 35) (by decide) dX8_knows_25 (sd_iload_n (i := 1) rfl dX8_knows_35 (sd_bipush (v := 8) (by decide) dX8_knows_36 (sd_imul dX8_knows_38 (sd_iload_n (i := 2) rfl dX8_knows_39 (sd_iadd dX8_knows_40 (sd_istore (i := 4) (by decide) dX8_knows_41 (sd_aload_n (i := 0) rfl dX8_knows_43 (sd_getR clsX8 (f := 0) (by decide) (fun _ _ _ => rfl) mw_431 dX8_knows_44 (sd_getR clsX7 (f := 5) (by decide) (fun _ _ _ => rfl) mw_159 dX8_knows_47 (sd_iload (n := 4) dX8_knows_50 (sd_iaload dX8_knows_52 (sd_istore (i := 5) (by decide) dX8_knows_53 (sd_aload_n (i := 0) rfl dX8_knows_55 (sd_getR clsX8 (f := 0) (by decide) (fun _ _ _ => rfl) mw_431 dX8_knows_56 (sd_getR clsX7 (f := 5) (by decide) (fun _ _ _ => rfl) mw_159 dX8_knows_59 (sd_iload (n := 4) dX8_knows_62 (sd_iload_n (i := 3) rfl dX8_knows_64 (sd_iastore dX8_knows_65 (sd_aload_n (i := 0) rfl dX8_knows_66 (sd_iload (n := 5) dX8_knows_67 (sd_callV (Y' := YX8_accept) (mc' := 0) (ms' := 0) (n := 1) clsX8.1 mw_504 mw_506 mw_1 mw_100 mw_507 rfl (okmX8_accept) (by decide) (Nat.le_refl _) (by decide) (by decide) dX8_knows_69 (sd_iret (ty := .int) rfl (by decide) (by decide) dX8_knows_72)))))))))))))))))))))) (sd_aload_n (i := 0) rfl dX8_knows_28 (sd_bipush (v := (-2)) (by decide) dX8_knows_29 (sd_callV (Y' := YX8_refuse) (mc' := 0) (ms' := 0) (n := 1) clsX8.1 mw_500 mw_502 mw_0 mw_100 mw_503 rfl (okmX8_refuse) (by decide) (Nat.le_refl _) (by decide) (by decide) dX8_knows_31 (sd_iret (ty := .int) rfl (by decide) (by decide) dX8_knows_34)))))))))) (Sd.go))))) : Sd l E YX8_knows (d + 1) 0 0 Q 0 0 0 (bX8_knows_0 l E d Q)) ls st h hB
def bX8_knows_10 (l : Launch) (E : Ev) (d : Nat) (Q : Option Value → Hp → Prop) : Kt := k_aload 0 (k_push (.int (-1)) (k_callV l E 8 19 YX8_refuse d 0 0 1 (k_iret .int Q)))
set_option maxRecDepth 100000 in
set_option maxHeartbeats 4000000 in
theorem gX8_knows_10 {l : Launch} {E : Ev} {d : Nat} {Q : Option Value → Hp → Prop} {ls : Lv} {st : List Value} {h : Hp} (hB : bX8_knows_10 l E d Q ls st h) : Go l E YX8_knows (d + 1) 0 0 Q 0 0 10 ls st h :=
  (sd_aload_n (i := 0) rfl dX8_knows_10 (sd_iconst (v := (-1)) (by decide) dX8_knows_11 (sd_callV (Y' := YX8_refuse) (mc' := 0) (ms' := 0) (n := 1) clsX8.1 mw_500 mw_502 mw_0 mw_100 mw_503 rfl (okmX8_refuse) (by decide) (Nat.le_refl _) (by decide) (by decide) dX8_knows_12 (sd_iret (ty := .int) rfl (by decide) (by decide) dX8_knows_15))) : Sd l E YX8_knows (d + 1) 0 0 Q 0 0 10 (bX8_knows_10 l E d Q)) ls st h hB
theorem eX8_knows {l : Launch} {E : Ev} {d : Nat} {Q : Option Value → Hp → Prop} {h : Hp} {a0 : Nat} {x1 : Int32} {x2 : Int32} {x3 : Int32} (hk : Go l E YX8_knows d 0 0 Q 0 0 0 [some (.ref a0), some (.int x1), some (.int x2), some (.int x3), none, none] [] h) : GoM l E YX8_knows d 0 0 [.ref a0, .int x1, .int x2, .int x3] h Q := GoM.of (by decide +kernel) rfl (by simp [entA, YX8_knows]) hk
theorem dX8_of_0 : decode cX8_of 0 = .ok (.aload_n 0, 1) := by decide +kernel
theorem dX8_of_1 : decode cX8_of 1 = .ok (.getfield 10, 3) := by decide +kernel
theorem dX8_of_4 : decode cX8_of 4 = .ok (.iload_n 1, 1) := by decide +kernel
theorem dX8_of_5 : decode cX8_of 5 = .ok (.iload_n 2, 1) := by decide +kernel
theorem dX8_of_6 : decode cX8_of 6 = .ok (.invokevirtual 121, 3) := by decide +kernel
theorem dX8_of_9 : decode cX8_of 9 = .ok (.ifCond .ne 5, 3) := by decide +kernel
theorem dX8_of_12 : decode cX8_of 12 = .ok (.iconst (-1), 1) := by decide +kernel
theorem dX8_of_13 : decode cX8_of 13 = .ok (.ireturn, 1) := by decide +kernel
theorem dX8_of_14 : decode cX8_of 14 = .ok (.aload_n 0, 1) := by decide +kernel
theorem dX8_of_15 : decode cX8_of 15 = .ok (.getfield 10, 3) := by decide +kernel
theorem dX8_of_18 : decode cX8_of 18 = .ok (.getfield 124, 3) := by decide +kernel
theorem dX8_of_21 : decode cX8_of 21 = .ok (.iload_n 1, 1) := by decide +kernel
theorem dX8_of_22 : decode cX8_of 22 = .ok (.bipush 8, 2) := by decide +kernel
theorem dX8_of_24 : decode cX8_of 24 = .ok (.imul, 1) := by decide +kernel
theorem dX8_of_25 : decode cX8_of 25 = .ok (.iload_n 2, 1) := by decide +kernel
theorem dX8_of_26 : decode cX8_of 26 = .ok (.iadd, 1) := by decide +kernel
theorem dX8_of_27 : decode cX8_of 27 = .ok (.iaload, 1) := by decide +kernel
theorem dX8_of_28 : decode cX8_of 28 = .ok (.istore 4, 2) := by decide +kernel
theorem dX8_of_30 : decode cX8_of 30 = .ok (.aload_n 0, 1) := by decide +kernel
theorem dX8_of_31 : decode cX8_of 31 = .ok (.getfield 45, 3) := by decide +kernel
theorem dX8_of_34 : decode cX8_of 34 = .ok (.aload_n 0, 1) := by decide +kernel
theorem dX8_of_35 : decode cX8_of 35 = .ok (.getfield 10, 3) := by decide +kernel
theorem dX8_of_38 : decode cX8_of 38 = .ok (.iload_n 1, 1) := by decide +kernel
theorem dX8_of_39 : decode cX8_of 39 = .ok (.iload_n 2, 1) := by decide +kernel
theorem dX8_of_40 : decode cX8_of 40 = .ok (.iload 4, 2) := by decide +kernel
theorem dX8_of_42 : decode cX8_of 42 = .ok (.aload_n 0, 1) := by decide +kernel
theorem dX8_of_43 : decode cX8_of 43 = .ok (.getfield 10, 3) := by decide +kernel
theorem dX8_of_46 : decode cX8_of 46 = .ok (.getfield 127, 3) := by decide +kernel
theorem dX8_of_49 : decode cX8_of 49 = .ok (.iconst 2, 1) := by decide +kernel
theorem dX8_of_50 : decode cX8_of 50 = .ok (.iaload, 1) := by decide +kernel
theorem dX8_of_51 : decode cX8_of 51 = .ok (.invokevirtual 130, 3) := by decide +kernel
theorem dX8_of_54 : decode cX8_of 54 = .ok (.iload_n 3, 1) := by decide +kernel
theorem dX8_of_55 : decode cX8_of 55 = .ok (.tableswitch 76 0 3 #[29, 32, 52, 64], 29) := by decide +kernel
theorem dX8_of_84 : decode cX8_of 84 = .ok (.iload 4, 2) := by decide +kernel
theorem dX8_of_86 : decode cX8_of 86 = .ok (.ireturn, 1) := by decide +kernel
theorem dX8_of_87 : decode cX8_of 87 = .ok (.aload_n 0, 1) := by decide +kernel
theorem dX8_of_88 : decode cX8_of 88 = .ok (.getfield 45, 3) := by decide +kernel
theorem dX8_of_91 : decode cX8_of 91 = .ok (.aload_n 0, 1) := by decide +kernel
theorem dX8_of_92 : decode cX8_of 92 = .ok (.getfield 10, 3) := by decide +kernel
theorem dX8_of_95 : decode cX8_of 95 = .ok (.invokevirtual 134, 3) := by decide +kernel
theorem dX8_of_98 : decode cX8_of 98 = .ok (.ifCond .eq 7, 3) := by decide +kernel
theorem dX8_of_101 : decode cX8_of 101 = .ok (.iconst 1, 1) := by decide +kernel
theorem dX8_of_102 : decode cX8_of 102 = .ok (.goto 4, 3) := by decide +kernel
theorem dX8_of_105 : decode cX8_of 105 = .ok (.iconst 0, 1) := by decide +kernel
theorem dX8_of_106 : decode cX8_of 106 = .ok (.ireturn, 1) := by decide +kernel
theorem dX8_of_107 : decode cX8_of 107 = .ok (.aload_n 0, 1) := by decide +kernel
theorem dX8_of_108 : decode cX8_of 108 = .ok (.getfield 45, 3) := by decide +kernel
theorem dX8_of_111 : decode cX8_of 111 = .ok (.aload_n 0, 1) := by decide +kernel
theorem dX8_of_112 : decode cX8_of 112 = .ok (.getfield 10, 3) := by decide +kernel
theorem dX8_of_115 : decode cX8_of 115 = .ok (.invokevirtual 138, 3) := by decide +kernel
theorem dX8_of_118 : decode cX8_of 118 = .ok (.ireturn, 1) := by decide +kernel
theorem dX8_of_119 : decode cX8_of 119 = .ok (.aload_n 0, 1) := by decide +kernel
theorem dX8_of_120 : decode cX8_of 120 = .ok (.getfield 45, 3) := by decide +kernel
theorem dX8_of_123 : decode cX8_of 123 = .ok (.aload_n 0, 1) := by decide +kernel
theorem dX8_of_124 : decode cX8_of 124 = .ok (.getfield 10, 3) := by decide +kernel
theorem dX8_of_127 : decode cX8_of 127 = .ok (.invokevirtual 142, 3) := by decide +kernel
theorem dX8_of_130 : decode cX8_of 130 = .ok (.ireturn, 1) := by decide +kernel
theorem dX8_of_131 : decode cX8_of 131 = .ok (.iconst (-1), 1) := by decide +kernel
theorem dX8_of_132 : decode cX8_of 132 = .ok (.ireturn, 1) := by decide +kernel
def bX8_of_0 (l : Launch) (E : Ev) (d : Nat) (Q : Option Value → Hp → Prop) : Kt := k_aload 0 (k_getR 8 19 0 (k_iload 1 (k_iload 2 (k_callV l E 7 15 YX7_hasBoth d 0 0 2 (k_if_ne (k_aload 0 (k_getR 8 19 0 (k_getR 7 15 5 (k_iload 1 (k_push (.int 8) (k_imul (k_iload 2 (k_iadd (k_iaload (k_istore 4 (k_aload 0 (k_getR 8 19 11 (k_aload 0 (k_getR 8 19 0 (k_iload 1 (k_iload 2 (k_iload 4 (k_aload 0 (k_getR 8 19 0 (k_getR 7 15 7 (k_push (.int 2) (k_iaload (k_callV l E 0 7 YX0_ask d 0 0 5 (k_iload 3 (k_sw [(0, (k_iload 4 (k_iret .int Q))), (1, (k_aload 0 (k_getR 8 19 11 (k_aload 0 (k_getR 8 19 0 (k_callV l E 0 7 YX0_canPlay d 0 0 1 (k_if_eq (k_push (.int 0) (k_iret .int Q)) (k_push (.int 1) (k_iret .int Q))))))))), (2, (k_aload 0 (k_getR 8 19 11 (k_aload 0 (k_getR 8 19 0 (k_callV l E 0 7 YX0_price d 0 0 1 (k_iret .int Q))))))), (3, (k_aload 0 (k_getR 8 19 11 (k_aload 0 (k_getR 8 19 0 (k_callV l E 0 7 YX0_fading d 0 0 1 (k_iret .int Q)))))))] (k_push (.int (-1)) (k_iret .int Q))))))))))))))))))))))))))) (k_push (.int (-1)) (k_iret .int Q)))))))
set_option maxRecDepth 100000 in
set_option maxHeartbeats 4000000 in
theorem gX8_of_0 {l : Launch} {E : Ev} {d : Nat} {Q : Option Value → Hp → Prop} {ls : Lv} {st : List Value} {h : Hp} (hB : bX8_of_0 l E d Q ls st h) : Go l E YX8_of (d + 1) 0 0 Q 0 0 0 ls st h :=
  (sd_aload_n (i := 0) rfl dX8_of_0 (sd_getR clsX8 (f := 0) (by decide) (fun _ _ _ => rfl) mw_431 dX8_of_1 (sd_iload_n (i := 1) rfl dX8_of_4 (sd_iload_n (i := 2) rfl dX8_of_5 (sd_callV (Y' := YX7_hasBoth) (mc' := 0) (ms' := 0) (n := 2) clsX7.1 mw_541 mw_542 mw_543 mw_101 mw_544 rfl (okmX7_hasBoth) (by decide) (Nat.le_refl _) (by decide) (by decide) dX8_of_6 (sd_if_ne (tgt := 14) (by decide) dX8_of_9 (sd_aload_n (i := 0) rfl dX8_of_14 (sd_getR clsX8 (f := 0) (by decide) (fun _ _ _ => rfl) mw_431 dX8_of_15 (sd_getR clsX7 (f := 5) (by decide) (fun _ _ _ => rfl) mw_159 dX8_of_18 (sd_iload_n (i := 1) rfl dX8_of_21 (sd_bipush (v := 8) (by decide) dX8_of_22 (sd_imul dX8_of_24 (sd_iload_n (i := 2) rfl dX8_of_25 (sd_iadd dX8_of_26 (sd_iaload dX8_of_27 (sd_istore (i := 4) (by decide) dX8_of_28 (sd_aload_n (i := 0) rfl dX8_of_30 (sd_getR clsX8 (f := 11) (by decide) (fun _ _ _ => rfl) mw_442 dX8_of_31 (sd_aload_n (i := 0) rfl dX8_of_34 (sd_getR clsX8 (f := 0) (by decide) (fun _ _ _ => rfl) mw_431 dX8_of_35 (sd_iload_n (i := 1) rfl dX8_of_38 (sd_iload_n (i := 2) rfl dX8_of_39 (sd_iload (n := 4) dX8_of_40 (sd_aload_n (i := 0) rfl dX8_of_42 (sd_getR clsX8 (f := 0) (by decide) (fun _ _ _ => rfl) mw_431 dX8_of_43 (sd_getR clsX7 (f := 7) (by decide) (fun _ _ _ => rfl) mw_166 dX8_of_46 (sd_iconst (v := 2) (by decide) dX8_of_49 (sd_iaload dX8_of_50 (sd_callV (Y' := YX0_ask) (mc' := 0) (ms' := 0) (n := 5) clsX0.1 mw_551 mw_552 mw_553 mw_103 mw_554 rfl (okmX0_ask) (by decide) (Nat.le_refl _) (by decide) (by decide) dX8_of_51 (sd_iload_n (i := 3) rfl dX8_of_54 (sd_table dX8_of_55 (dt := 131) (by decide) (sd_iconst (v := (-1)) (by decide) dX8_of_131 (sd_iret (ty := .int) rfl (by decide) (by decide) dX8_of_132)) rfl (tb_all (tb_cons (off := 29) (tgt := 84) (by decide) rfl (by decide) (sd_iload (n := 4) dX8_of_84 (sd_iret (ty := .int) rfl (by decide) (by decide) dX8_of_86)) (tb_cons (off := 32) (tgt := 87) (by decide) rfl (by decide) (sd_aload_n (i := 0) rfl dX8_of_87 (sd_getR clsX8 (f := 11) (by decide) (fun _ _ _ => rfl) mw_442 dX8_of_88 (sd_aload_n (i := 0) rfl dX8_of_91 (sd_getR clsX8 (f := 0) (by decide) (fun _ _ _ => rfl) mw_431 dX8_of_92 (sd_callV (Y' := YX0_canPlay) (mc' := 0) (ms' := 0) (n := 1) clsX0.1 mw_555 mw_556 mw_557 mw_103 mw_558 rfl (okmX0_canPlay) (by decide) (Nat.le_refl _) (by decide) (by decide) dX8_of_95 (sd_if_eq (tgt := 105) (by decide) dX8_of_98 (sd_iconst (v := 0) (by decide) dX8_of_105 (sd_iret (ty := .int) rfl (by decide) (by decide) dX8_of_106)) (sd_iconst (v := 1) (by decide) dX8_of_101 (sd_goto (tgt := 106) (by decide) dX8_of_102 (sd_iret (ty := .int) rfl (by decide) (by decide) dX8_of_106))))))))) (tb_cons (off := 52) (tgt := 107) (by decide) rfl (by decide) (sd_aload_n (i := 0) rfl dX8_of_107 (sd_getR clsX8 (f := 11) (by decide) (fun _ _ _ => rfl) mw_442 dX8_of_108 (sd_aload_n (i := 0) rfl dX8_of_111 (sd_getR clsX8 (f := 0) (by decide) (fun _ _ _ => rfl) mw_431 dX8_of_112 (sd_callV (Y' := YX0_price) (mc' := 0) (ms' := 0) (n := 1) clsX0.1 mw_582 mw_583 mw_584 mw_103 mw_585 rfl (okmX0_price) (by decide) (Nat.le_refl _) (by decide) (by decide) dX8_of_115 (sd_iret (ty := .int) rfl (by decide) (by decide) dX8_of_118)))))) (tb_cons (off := 64) (tgt := 119) (by decide) rfl (by decide) (sd_aload_n (i := 0) rfl dX8_of_119 (sd_getR clsX8 (f := 11) (by decide) (fun _ _ _ => rfl) mw_442 dX8_of_120 (sd_aload_n (i := 0) rfl dX8_of_123 (sd_getR clsX8 (f := 0) (by decide) (fun _ _ _ => rfl) mw_431 dX8_of_124 (sd_callV (Y' := YX0_fading) (mc' := 0) (ms' := 0) (n := 1) clsX0.1 mw_590 mw_591 mw_592 mw_103 mw_593 rfl (okmX0_fading) (by decide) (Nat.le_refl _) (by decide) (by decide) dX8_of_127 (sd_iret (ty := .int) rfl (by decide) (by decide) dX8_of_130)))))) (tb_nil))))))))))))))))))))))))))))))) (sd_iconst (v := (-1)) (by decide) dX8_of_12 (sd_iret (ty := .int) rfl (by decide) (by decide) dX8_of_13))))))) : Sd l E YX8_of (d + 1) 0 0 Q 0 0 0 (bX8_of_0 l E d Q)) ls st h hB
theorem eX8_of {l : Launch} {E : Ev} {d : Nat} {Q : Option Value → Hp → Prop} {h : Hp} {a0 : Nat} {x1 : Int32} {x2 : Int32} {x3 : Int32} (hk : Go l E YX8_of d 0 0 Q 0 0 0 [some (.ref a0), some (.int x1), some (.int x2), some (.int x3), none] [] h) : GoM l E YX8_of d 0 0 [.ref a0, .int x1, .int x2, .int x3] h Q := GoM.of (by decide +kernel) rfl (by simp [entA, YX8_of]) hk
theorem dX8_ill_0 : decode cX8_ill 0 = .ok (.iload_n 1, 1) := by decide +kernel
theorem dX8_ill_1 : decode cX8_ill 1 = .ok (.aload_n 0, 1) := by decide +kernel
theorem dX8_ill_2 : decode cX8_ill 2 = .ok (.getfield 10, 3) := by decide +kernel
theorem dX8_ill_5 : decode cX8_ill 5 = .ok (.getfield 93, 3) := by decide +kernel
theorem dX8_ill_8 : decode cX8_ill 8 = .ok (.invokestatic 145, 3) := by decide +kernel
theorem dX8_ill_11 : decode cX8_ill 11 = .ok (.ifCond .ne 9, 3) := by decide +kernel
theorem dX8_ill_14 : decode cX8_ill 14 = .ok (.aload_n 0, 1) := by decide +kernel
theorem dX8_ill_15 : decode cX8_ill 15 = .ok (.iconst (-1), 1) := by decide +kernel
theorem dX8_ill_16 : decode cX8_ill 16 = .ok (.invokevirtual 89, 3) := by decide +kernel
theorem dX8_ill_19 : decode cX8_ill 19 = .ok (.ireturn, 1) := by decide +kernel
theorem dX8_ill_20 : decode cX8_ill 20 = .ok (.aload_n 0, 1) := by decide +kernel
theorem dX8_ill_21 : decode cX8_ill 21 = .ok (.getfield 10, 3) := by decide +kernel
theorem dX8_ill_24 : decode cX8_ill 24 = .ok (.getfield 148, 3) := by decide +kernel
theorem dX8_ill_27 : decode cX8_ill 27 = .ok (.istore_n 2, 1) := by decide +kernel
theorem dX8_ill_28 : decode cX8_ill 28 = .ok (.aload_n 0, 1) := by decide +kernel
theorem dX8_ill_29 : decode cX8_ill 29 = .ok (.getfield 10, 3) := by decide +kernel
theorem dX8_ill_32 : decode cX8_ill 32 = .ok (.iload_n 1, 1) := by decide +kernel
theorem dX8_ill_33 : decode cX8_ill 33 = .ok (.putfield 148, 3) := by decide +kernel
theorem dX8_ill_36 : decode cX8_ill 36 = .ok (.aload_n 0, 1) := by decide +kernel
theorem dX8_ill_37 : decode cX8_ill 37 = .ok (.iload_n 2, 1) := by decide +kernel
theorem dX8_ill_38 : decode cX8_ill 38 = .ok (.invokevirtual 99, 3) := by decide +kernel
theorem dX8_ill_41 : decode cX8_ill 41 = .ok (.ireturn, 1) := by decide +kernel
def bX8_ill_0 (l : Launch) (E : Ev) (d : Nat) (Q : Option Value → Hp → Prop) : Kt := k_iload 1 (k_aload 0 (k_getR 8 19 0 (k_getI 7 15 0 (k_callS l E YX8_within d 0 0 2 (k_if_ne (k_aload 0 (k_getR 8 19 0 (k_getI 7 15 6 (k_istore 2 (k_aload 0 (k_getR 8 19 0 (k_iload 1 (k_putI 7 15 6 (k_aload 0 (k_iload 2 (k_callV l E 8 19 YX8_accept d 0 0 1 (k_iret .int Q)))))))))))) (k_aload 0 (k_push (.int (-1)) (k_callV l E 8 19 YX8_refuse d 0 0 1 (k_iret .int Q)))))))))
set_option maxRecDepth 100000 in
set_option maxHeartbeats 4000000 in
theorem gX8_ill_0 {l : Launch} {E : Ev} {d : Nat} {Q : Option Value → Hp → Prop} {ls : Lv} {st : List Value} {h : Hp} (hB : bX8_ill_0 l E d Q ls st h) : Go l E YX8_ill (d + 1) 0 0 Q 0 0 0 ls st h :=
  (sd_iload_n (i := 1) rfl dX8_ill_0 (sd_aload_n (i := 0) rfl dX8_ill_1 (sd_getR clsX8 (f := 0) (by decide) (fun _ _ _ => rfl) mw_431 dX8_ill_2 (sd_getI clsX7 (f := 0) (by decide) (fun _ _ _ => rfl) mw_138 dX8_ill_5 (sd_callS (Y' := YX8_within) (mc' := 0) (ms' := 0) (n := 2) mw_598 mw_599 mw_100 mw_600 (okmX8_within) (by decide) (Nat.le_refl _) (by decide) (by decide) dX8_ill_8 (sd_if_ne (tgt := 20) (by decide) dX8_ill_11 (sd_aload_n (i := 0) rfl dX8_ill_20 (sd_getR clsX8 (f := 0) (by decide) (fun _ _ _ => rfl) mw_431 dX8_ill_21 (sd_getI clsX7 (f := 6) (by decide) (fun _ _ _ => rfl) mw_161 dX8_ill_24 (sd_istore_n (i := 2) rfl (by decide) dX8_ill_27 (sd_aload_n (i := 0) rfl dX8_ill_28 (sd_getR clsX8 (f := 0) (by decide) (fun _ _ _ => rfl) mw_431 dX8_ill_29 (sd_iload_n (i := 1) rfl dX8_ill_32 (sd_putI clsX7 (f := 6) (by decide) (fun _ _ _ => rfl) rfl (Or.inl rfl) mw_161 dX8_ill_33 (sd_aload_n (i := 0) rfl dX8_ill_36 (sd_iload_n (i := 2) rfl dX8_ill_37 (sd_callV (Y' := YX8_accept) (mc' := 0) (ms' := 0) (n := 1) clsX8.1 mw_504 mw_506 mw_1 mw_100 mw_507 rfl (okmX8_accept) (by decide) (Nat.le_refl _) (by decide) (by decide) dX8_ill_38 (sd_iret (ty := .int) rfl (by decide) (by decide) dX8_ill_41)))))))))))) (sd_aload_n (i := 0) rfl dX8_ill_14 (sd_iconst (v := (-1)) (by decide) dX8_ill_15 (sd_callV (Y' := YX8_refuse) (mc' := 0) (ms' := 0) (n := 1) clsX8.1 mw_500 mw_502 mw_0 mw_100 mw_503 rfl (okmX8_refuse) (by decide) (Nat.le_refl _) (by decide) (by decide) dX8_ill_16 (sd_iret (ty := .int) rfl (by decide) (by decide) dX8_ill_19))))))))) : Sd l E YX8_ill (d + 1) 0 0 Q 0 0 0 (bX8_ill_0 l E d Q)) ls st h hB
theorem eX8_ill {l : Launch} {E : Ev} {d : Nat} {Q : Option Value → Hp → Prop} {h : Hp} {a0 : Nat} {x1 : Int32} (hk : Go l E YX8_ill d 0 0 Q 0 0 0 [some (.ref a0), some (.int x1), none] [] h) : GoM l E YX8_ill d 0 0 [.ref a0, .int x1] h Q := GoM.of (by decide +kernel) rfl (by simp [entA, YX8_ill]) hk
theorem dX8_terms_0 : decode cX8_terms 0 = .ok (.iload_n 1, 1) := by decide +kernel
theorem dX8_terms_1 : decode cX8_terms 1 = .ok (.ifCond .lt 24, 3) := by decide +kernel
theorem dX8_terms_4 : decode cX8_terms 4 = .ok (.iload_n 1, 1) := by decide +kernel
theorem dX8_terms_5 : decode cX8_terms 5 = .ok (.getstatic 151, 3) := by decide +kernel
theorem dX8_terms_8 : decode cX8_terms 8 = .ok (.arraylength, 1) := by decide +kernel
theorem dX8_terms_9 : decode cX8_terms 9 = .ok (.if_icmp .ge 16, 3) := by decide +kernel
theorem dX8_terms_12 : decode cX8_terms 12 = .ok (.iload_n 2, 1) := by decide +kernel
theorem dX8_terms_13 : decode cX8_terms 13 = .ok (.ifCond .lt 12, 3) := by decide +kernel
theorem dX8_terms_16 : decode cX8_terms 16 = .ok (.iload_n 2, 1) := by decide +kernel
theorem dX8_terms_17 : decode cX8_terms 17 = .ok (.getstatic 151, 3) := by decide +kernel
theorem dX8_terms_20 : decode cX8_terms 20 = .ok (.iload_n 1, 1) := by decide +kernel
theorem dX8_terms_21 : decode cX8_terms 21 = .ok (.iaload, 1) := by decide +kernel
theorem dX8_terms_22 : decode cX8_terms 22 = .ok (.if_icmp .le 9, 3) := by decide +kernel
theorem dX8_terms_25 : decode cX8_terms 25 = .ok (.aload_n 0, 1) := by decide +kernel
theorem dX8_terms_26 : decode cX8_terms 26 = .ok (.iconst (-1), 1) := by decide +kernel
theorem dX8_terms_27 : decode cX8_terms 27 = .ok (.invokevirtual 89, 3) := by decide +kernel
theorem dX8_terms_30 : decode cX8_terms 30 = .ok (.ireturn, 1) := by decide +kernel
theorem dX8_terms_31 : decode cX8_terms 31 = .ok (.aload_n 0, 1) := by decide +kernel
theorem dX8_terms_32 : decode cX8_terms 32 = .ok (.getfield 10, 3) := by decide +kernel
theorem dX8_terms_35 : decode cX8_terms 35 = .ok (.getfield 127, 3) := by decide +kernel
theorem dX8_terms_38 : decode cX8_terms 38 = .ok (.iload_n 1, 1) := by decide +kernel
theorem dX8_terms_39 : decode cX8_terms 39 = .ok (.iaload, 1) := by decide +kernel
theorem dX8_terms_40 : decode cX8_terms 40 = .ok (.istore_n 3, 1) := by decide +kernel
theorem dX8_terms_41 : decode cX8_terms 41 = .ok (.aload_n 0, 1) := by decide +kernel
theorem dX8_terms_42 : decode cX8_terms 42 = .ok (.getfield 10, 3) := by decide +kernel
theorem dX8_terms_45 : decode cX8_terms 45 = .ok (.getfield 127, 3) := by decide +kernel
theorem dX8_terms_48 : decode cX8_terms 48 = .ok (.iload_n 1, 1) := by decide +kernel
theorem dX8_terms_49 : decode cX8_terms 49 = .ok (.iload_n 2, 1) := by decide +kernel
theorem dX8_terms_50 : decode cX8_terms 50 = .ok (.iastore, 1) := by decide +kernel
theorem dX8_terms_51 : decode cX8_terms 51 = .ok (.aload_n 0, 1) := by decide +kernel
theorem dX8_terms_52 : decode cX8_terms 52 = .ok (.iload_n 3, 1) := by decide +kernel
theorem dX8_terms_53 : decode cX8_terms 53 = .ok (.invokevirtual 99, 3) := by decide +kernel
theorem dX8_terms_56 : decode cX8_terms 56 = .ok (.ireturn, 1) := by decide +kernel
def bX8_terms_0 (l : Launch) (E : Ev) (d : Nat) (Q : Option Value → Hp → Prop) : Kt := k_iload 1 (k_if_lt (Go l E YX8_terms (d + 1) 0 0 Q 0 0 25) (k_iload 1 (k_gets 3 (k_alen (k_icmp_ge (Go l E YX8_terms (d + 1) 0 0 Q 0 0 25) (k_iload 2 (k_if_lt (Go l E YX8_terms (d + 1) 0 0 Q 0 0 25) (k_iload 2 (k_gets 3 (k_iload 1 (k_iaload (k_icmp_le (k_aload 0 (k_getR 8 19 0 (k_getR 7 15 7 (k_iload 1 (k_iaload (k_istore 3 (k_aload 0 (k_getR 8 19 0 (k_getR 7 15 7 (k_iload 1 (k_iload 2 (k_iastore (k_aload 0 (k_iload 3 (k_callV l E 8 19 YX8_accept d 0 0 1 (k_iret .int Q)))))))))))))))) (Go l E YX8_terms (d + 1) 0 0 Q 0 0 25)))))))))))))
set_option maxRecDepth 100000 in
set_option maxHeartbeats 4000000 in
theorem gX8_terms_0 {l : Launch} {E : Ev} {d : Nat} {Q : Option Value → Hp → Prop} {ls : Lv} {st : List Value} {h : Hp} (hB : bX8_terms_0 l E d Q ls st h) : Go l E YX8_terms (d + 1) 0 0 Q 0 0 0 ls st h :=
  (sd_iload_n (i := 1) rfl dX8_terms_0 (sd_if_lt (tgt := 25) (by decide) dX8_terms_1 (Sd.go) (sd_iload_n (i := 1) rfl dX8_terms_4 (sd_gets (q := 3) (by decide) (by decide) mw_605 dX8_terms_5 (sd_alen dX8_terms_8 (sd_icmp_ge (tgt := 25) (by decide) dX8_terms_9 (Sd.go) (sd_iload_n (i := 2) rfl dX8_terms_12 (sd_if_lt (tgt := 25) (by decide) dX8_terms_13 (Sd.go) (sd_iload_n (i := 2) rfl dX8_terms_16 (sd_gets (q := 3) (by decide) (by decide) mw_605 dX8_terms_17 (sd_iload_n (i := 1) rfl dX8_terms_20 (sd_iaload dX8_terms_21 (sd_icmp_le (tgt := 31) (by decide) dX8_terms_22 (sd_aload_n (i := 0) rfl dX8_terms_31 (sd_getR clsX8 (f := 0) (by decide) (fun _ _ _ => rfl) mw_431 dX8_terms_32 (sd_getR clsX7 (f := 7) (by decide) (fun _ _ _ => rfl) mw_166 dX8_terms_35 (sd_iload_n (i := 1) rfl dX8_terms_38 (sd_iaload dX8_terms_39 (sd_istore_n (i := 3) rfl (by decide) dX8_terms_40 (sd_aload_n (i := 0) rfl dX8_terms_41 (sd_getR clsX8 (f := 0) (by decide) (fun _ _ _ => rfl) mw_431 dX8_terms_42 (sd_getR clsX7 (f := 7) (by decide) (fun _ _ _ => rfl) mw_166 dX8_terms_45 (sd_iload_n (i := 1) rfl dX8_terms_48 (sd_iload_n (i := 2) rfl dX8_terms_49 (sd_iastore dX8_terms_50 (sd_aload_n (i := 0) rfl dX8_terms_51 (sd_iload_n (i := 3) rfl dX8_terms_52 (sd_callV (Y' := YX8_accept) (mc' := 0) (ms' := 0) (n := 1) clsX8.1 mw_504 mw_506 mw_1 mw_100 mw_507 rfl (okmX8_accept) (by decide) (Nat.le_refl _) (by decide) (by decide) dX8_terms_53 (sd_iret (ty := .int) rfl (by decide) (by decide) dX8_terms_56)))))))))))))))) (Sd.go))))))))))))) : Sd l E YX8_terms (d + 1) 0 0 Q 0 0 0 (bX8_terms_0 l E d Q)) ls st h hB
def bX8_terms_25 (l : Launch) (E : Ev) (d : Nat) (Q : Option Value → Hp → Prop) : Kt := k_aload 0 (k_push (.int (-1)) (k_callV l E 8 19 YX8_refuse d 0 0 1 (k_iret .int Q)))
set_option maxRecDepth 100000 in
set_option maxHeartbeats 4000000 in
theorem gX8_terms_25 {l : Launch} {E : Ev} {d : Nat} {Q : Option Value → Hp → Prop} {ls : Lv} {st : List Value} {h : Hp} (hB : bX8_terms_25 l E d Q ls st h) : Go l E YX8_terms (d + 1) 0 0 Q 0 0 25 ls st h :=
  (sd_aload_n (i := 0) rfl dX8_terms_25 (sd_iconst (v := (-1)) (by decide) dX8_terms_26 (sd_callV (Y' := YX8_refuse) (mc' := 0) (ms' := 0) (n := 1) clsX8.1 mw_500 mw_502 mw_0 mw_100 mw_503 rfl (okmX8_refuse) (by decide) (Nat.le_refl _) (by decide) (by decide) dX8_terms_27 (sd_iret (ty := .int) rfl (by decide) (by decide) dX8_terms_30))) : Sd l E YX8_terms (d + 1) 0 0 Q 0 0 25 (bX8_terms_25 l E d Q)) ls st h hB
theorem eX8_terms {l : Launch} {E : Ev} {d : Nat} {Q : Option Value → Hp → Prop} {h : Hp} {a0 : Nat} {x1 : Int32} {x2 : Int32} (hk : Go l E YX8_terms d 0 0 Q 0 0 0 [some (.ref a0), some (.int x1), some (.int x2), none] [] h) : GoM l E YX8_terms d 0 0 [.ref a0, .int x1, .int x2] h Q := GoM.of (by decide +kernel) rfl (by simp [entA, YX8_terms]) hk
theorem dX8_feed_0 : decode cX8_feed 0 = .ok (.aload_n 0, 1) := by decide +kernel
theorem dX8_feed_1 : decode cX8_feed 1 = .ok (.getfield 154, 3) := by decide +kernel
theorem dX8_feed_4 : decode cX8_feed 4 = .ok (.sipush 380, 3) := by decide +kernel
theorem dX8_feed_7 : decode cX8_feed 7 = .ok (.if_icmp .le 5, 3) := by decide +kernel
theorem dX8_feed_10 : decode cX8_feed 10 = .ok (.iconst (-1), 1) := by decide +kernel
theorem dX8_feed_11 : decode cX8_feed 11 = .ok (.ireturn, 1) := by decide +kernel
theorem dX8_feed_12 : decode cX8_feed 12 = .ok (.aload_n 0, 1) := by decide +kernel
theorem dX8_feed_13 : decode cX8_feed 13 = .ok (.iload_n 1, 1) := by decide +kernel
theorem dX8_feed_14 : decode cX8_feed 14 = .ok (.invokevirtual 157, 3) := by decide +kernel
theorem dX8_feed_17 : decode cX8_feed 17 = .ok (.aload_n 0, 1) := by decide +kernel
theorem dX8_feed_18 : decode cX8_feed 18 = .ok (.iload_n 2, 1) := by decide +kernel
theorem dX8_feed_19 : decode cX8_feed 19 = .ok (.invokevirtual 157, 3) := by decide +kernel
theorem dX8_feed_22 : decode cX8_feed 22 = .ok (.aload_n 0, 1) := by decide +kernel
theorem dX8_feed_23 : decode cX8_feed 23 = .ok (.iload_n 3, 1) := by decide +kernel
theorem dX8_feed_24 : decode cX8_feed 24 = .ok (.invokevirtual 157, 3) := by decide +kernel
theorem dX8_feed_27 : decode cX8_feed 27 = .ok (.aload_n 0, 1) := by decide +kernel
theorem dX8_feed_28 : decode cX8_feed 28 = .ok (.iload 4, 2) := by decide +kernel
theorem dX8_feed_30 : decode cX8_feed 30 = .ok (.invokevirtual 157, 3) := by decide +kernel
theorem dX8_feed_33 : decode cX8_feed 33 = .ok (.aload_n 0, 1) := by decide +kernel
theorem dX8_feed_34 : decode cX8_feed 34 = .ok (.iload 5, 2) := by decide +kernel
theorem dX8_feed_36 : decode cX8_feed 36 = .ok (.invokevirtual 157, 3) := by decide +kernel
theorem dX8_feed_39 : decode cX8_feed 39 = .ok (.aload_n 0, 1) := by decide +kernel
theorem dX8_feed_40 : decode cX8_feed 40 = .ok (.getfield 154, 3) := by decide +kernel
theorem dX8_feed_43 : decode cX8_feed 43 = .ok (.ireturn, 1) := by decide +kernel
def bX8_feed_0 (l : Launch) (E : Ev) (d : Nat) (Q : Option Value → Hp → Prop) : Kt := k_aload 0 (k_getI 8 19 4 (k_push (.int 380) (k_icmp_le (k_aload 0 (k_iload 1 (k_callV l E 8 19 YX8_putFour d 0 0 1 (k_aload 0 (k_iload 2 (k_callV l E 8 19 YX8_putFour d 0 0 1 (k_aload 0 (k_iload 3 (k_callV l E 8 19 YX8_putFour d 0 0 1 (k_aload 0 (k_iload 4 (k_callV l E 8 19 YX8_putFour d 0 0 1 (k_aload 0 (k_iload 5 (k_callV l E 8 19 YX8_putFour d 0 0 1 (k_aload 0 (k_getI 8 19 4 (k_iret .int Q)))))))))))))))))) (k_push (.int (-1)) (k_iret .int Q)))))
set_option maxRecDepth 100000 in
set_option maxHeartbeats 4000000 in
theorem gX8_feed_0 {l : Launch} {E : Ev} {d : Nat} {Q : Option Value → Hp → Prop} {ls : Lv} {st : List Value} {h : Hp} (hB : bX8_feed_0 l E d Q ls st h) : Go l E YX8_feed (d + 1) 0 0 Q 0 0 0 ls st h :=
  (sd_aload_n (i := 0) rfl dX8_feed_0 (sd_getI clsX8 (f := 4) (by decide) (fun _ _ _ => rfl) mw_435 dX8_feed_1 (sd_sipush (v := 380) (by decide) dX8_feed_4 (sd_icmp_le (tgt := 12) (by decide) dX8_feed_7 (sd_aload_n (i := 0) rfl dX8_feed_12 (sd_iload_n (i := 1) rfl dX8_feed_13 (sd_callV (Y' := YX8_putFour) (mc' := 0) (ms' := 0) (n := 1) clsX8.1 mw_611 mw_613 mw_3 mw_100 mw_614 rfl (okmX8_putFour) (by decide) (Nat.le_refl _) (by decide) (by decide) dX8_feed_14 (sd_aload_n (i := 0) rfl dX8_feed_17 (sd_iload_n (i := 2) rfl dX8_feed_18 (sd_callV (Y' := YX8_putFour) (mc' := 0) (ms' := 0) (n := 1) clsX8.1 mw_611 mw_613 mw_3 mw_100 mw_614 rfl (okmX8_putFour) (by decide) (Nat.le_refl _) (by decide) (by decide) dX8_feed_19 (sd_aload_n (i := 0) rfl dX8_feed_22 (sd_iload_n (i := 3) rfl dX8_feed_23 (sd_callV (Y' := YX8_putFour) (mc' := 0) (ms' := 0) (n := 1) clsX8.1 mw_611 mw_613 mw_3 mw_100 mw_614 rfl (okmX8_putFour) (by decide) (Nat.le_refl _) (by decide) (by decide) dX8_feed_24 (sd_aload_n (i := 0) rfl dX8_feed_27 (sd_iload (n := 4) dX8_feed_28 (sd_callV (Y' := YX8_putFour) (mc' := 0) (ms' := 0) (n := 1) clsX8.1 mw_611 mw_613 mw_3 mw_100 mw_614 rfl (okmX8_putFour) (by decide) (Nat.le_refl _) (by decide) (by decide) dX8_feed_30 (sd_aload_n (i := 0) rfl dX8_feed_33 (sd_iload (n := 5) dX8_feed_34 (sd_callV (Y' := YX8_putFour) (mc' := 0) (ms' := 0) (n := 1) clsX8.1 mw_611 mw_613 mw_3 mw_100 mw_614 rfl (okmX8_putFour) (by decide) (Nat.le_refl _) (by decide) (by decide) dX8_feed_36 (sd_aload_n (i := 0) rfl dX8_feed_39 (sd_getI clsX8 (f := 4) (by decide) (fun _ _ _ => rfl) mw_435 dX8_feed_40 (sd_iret (ty := .int) rfl (by decide) (by decide) dX8_feed_43)))))))))))))))))) (sd_iconst (v := (-1)) (by decide) dX8_feed_10 (sd_iret (ty := .int) rfl (by decide) (by decide) dX8_feed_11))))) : Sd l E YX8_feed (d + 1) 0 0 Q 0 0 0 (bX8_feed_0 l E d Q)) ls st h hB
theorem eX8_feed {l : Launch} {E : Ev} {d : Nat} {Q : Option Value → Hp → Prop} {h : Hp} {a0 : Nat} {x1 : Int32} {x2 : Int32} {x3 : Int32} {x4 : Int32} {x5 : Int32} (hk : Go l E YX8_feed d 0 0 Q 0 0 0 [some (.ref a0), some (.int x1), some (.int x2), some (.int x3), some (.int x4), some (.int x5)] [] h) : GoM l E YX8_feed d 0 0 [.ref a0, .int x1, .int x2, .int x3, .int x4, .int x5] h Q := GoM.of (by decide +kernel) rfl (by simp [entA, YX8_feed]) hk
theorem dX8_end_0 : decode cX8_end 0 = .ok (.iload_n 1, 1) := by decide +kernel
theorem dX8_end_1 : decode cX8_end 1 = .ok (.ifCond .lt 11, 3) := by decide +kernel
theorem dX8_end_4 : decode cX8_end 4 = .ok (.iload_n 1, 1) := by decide +kernel
theorem dX8_end_5 : decode cX8_end 5 = .ok (.aload_n 0, 1) := by decide +kernel
theorem dX8_end_6 : decode cX8_end 6 = .ok (.getfield 154, 3) := by decide +kernel
theorem dX8_end_9 : decode cX8_end 9 = .ok (.if_icmp .le 5, 3) := by decide +kernel
theorem dX8_end_12 : decode cX8_end 12 = .ok (.iconst (-1), 1) := by decide +kernel
theorem dX8_end_13 : decode cX8_end 13 = .ok (.ireturn, 1) := by decide +kernel
theorem dX8_end_14 : decode cX8_end 14 = .ok (.aload_n 0, 1) := by decide +kernel
theorem dX8_end_15 : decode cX8_end 15 = .ok (.iload_n 1, 1) := by decide +kernel
theorem dX8_end_16 : decode cX8_end 16 = .ok (.putfield 154, 3) := by decide +kernel
theorem dX8_end_19 : decode cX8_end 19 = .ok (.iload_n 1, 1) := by decide +kernel
theorem dX8_end_20 : decode cX8_end 20 = .ok (.ireturn, 1) := by decide +kernel
def bX8_end_0 (l : Launch) (E : Ev) (d : Nat) (Q : Option Value → Hp → Prop) : Kt := k_iload 1 (k_if_lt (k_push (.int (-1)) (k_iret .int Q)) (k_iload 1 (k_aload 0 (k_getI 8 19 4 (k_icmp_le (k_aload 0 (k_iload 1 (k_putI 8 19 4 (k_iload 1 (k_iret .int Q))))) (k_push (.int (-1)) (k_iret .int Q)))))))
set_option maxRecDepth 100000 in
set_option maxHeartbeats 4000000 in
theorem gX8_end_0 {l : Launch} {E : Ev} {d : Nat} {Q : Option Value → Hp → Prop} {ls : Lv} {st : List Value} {h : Hp} (hB : bX8_end_0 l E d Q ls st h) : Go l E YX8_end (d + 1) 0 0 Q 0 0 0 ls st h :=
  (sd_iload_n (i := 1) rfl dX8_end_0 (sd_if_lt (tgt := 12) (by decide) dX8_end_1 (sd_iconst (v := (-1)) (by decide) dX8_end_12 (sd_iret (ty := .int) rfl (by decide) (by decide) dX8_end_13)) (sd_iload_n (i := 1) rfl dX8_end_4 (sd_aload_n (i := 0) rfl dX8_end_5 (sd_getI clsX8 (f := 4) (by decide) (fun _ _ _ => rfl) mw_435 dX8_end_6 (sd_icmp_le (tgt := 14) (by decide) dX8_end_9 (sd_aload_n (i := 0) rfl dX8_end_14 (sd_iload_n (i := 1) rfl dX8_end_15 (sd_putI clsX8 (f := 4) (by decide) (fun _ _ _ => rfl) rfl (Or.inl rfl) mw_435 dX8_end_16 (sd_iload_n (i := 1) rfl dX8_end_19 (sd_iret (ty := .int) rfl (by decide) (by decide) dX8_end_20))))) (sd_iconst (v := (-1)) (by decide) dX8_end_12 (sd_iret (ty := .int) rfl (by decide) (by decide) dX8_end_13))))))) : Sd l E YX8_end (d + 1) 0 0 Q 0 0 0 (bX8_end_0 l E d Q)) ls st h hB
theorem eX8_end {l : Launch} {E : Ev} {d : Nat} {Q : Option Value → Hp → Prop} {h : Hp} {a0 : Nat} {x1 : Int32} (hk : Go l E YX8_end d 0 0 Q 0 0 0 [some (.ref a0), some (.int x1)] [] h) : GoM l E YX8_end d 0 0 [.ref a0, .int x1] h Q := GoM.of (by decide +kernel) rfl (by simp [entA, YX8_end]) hk
theorem dX8_row_0 : decode cX8_row 0 = .ok (.aload_n 0, 1) := by decide +kernel
theorem dX8_row_1 : decode cX8_row 1 = .ok (.getfield 154, 3) := by decide +kernel
theorem dX8_row_4 : decode cX8_row 4 = .ok (.ifCond .ne 10, 3) := by decide +kernel
theorem dX8_row_7 : decode cX8_row 7 = .ok (.aload_n 0, 1) := by decide +kernel
theorem dX8_row_8 : decode cX8_row 8 = .ok (.bipush (-6), 2) := by decide +kernel
theorem dX8_row_10 : decode cX8_row 10 = .ok (.invokevirtual 89, 3) := by decide +kernel
theorem dX8_row_13 : decode cX8_row 13 = .ok (.ireturn, 1) := by decide +kernel
theorem dX8_row_14 : decode cX8_row 14 = .ok (.iconst 0, 1) := by decide +kernel
theorem dX8_row_15 : decode cX8_row 15 = .ok (.istore_n 1, 1) := by decide +kernel
theorem dX8_row_16 : decode cX8_row 16 = .ok (.iconst 0, 1) := by decide +kernel
theorem dX8_row_17 : decode cX8_row 17 = .ok (.istore_n 2, 1) := by decide +kernel
theorem dX8_row_18 : decode cX8_row 18 = .ok (.iconst 0, 1) := by decide +kernel
theorem dX8_row_19 : decode cX8_row 19 = .ok (.istore_n 3, 1) := by decide +kernel
theorem dX8_row_20 : decode cX8_row 20 = .ok (.iload_n 3, 1) := by decide +kernel
theorem dX8_row_21 : decode cX8_row 21 = .ok (.aload_n 0, 1) := by decide +kernel
theorem dX8_row_22 : decode cX8_row 22 = .ok (.getfield 154, 3) := by decide +kernel
theorem dX8_row_25 : decode cX8_row 25 = .ok (.if_icmp .ge 99, 3) := by decide +kernel
theorem dX8_row_28 : decode cX8_row 28 = .ok (.iload_n 3, 1) := by decide +kernel
theorem dX8_row_29 : decode cX8_row 29 = .ok (.iconst 2, 1) := by decide +kernel
theorem dX8_row_30 : decode cX8_row 30 = .ok (.iadd, 1) := by decide +kernel
theorem dX8_row_31 : decode cX8_row 31 = .ok (.aload_n 0, 1) := by decide +kernel
theorem dX8_row_32 : decode cX8_row 32 = .ok (.getfield 154, 3) := by decide +kernel
theorem dX8_row_35 : decode cX8_row 35 = .ok (.if_icmp .ge 80, 3) := by decide +kernel
theorem dX8_row_38 : decode cX8_row 38 = .ok (.aload_n 0, 1) := by decide +kernel
theorem dX8_row_39 : decode cX8_row 39 = .ok (.getfield 10, 3) := by decide +kernel
theorem dX8_row_42 : decode cX8_row 42 = .ok (.aload_n 0, 1) := by decide +kernel
theorem dX8_row_43 : decode cX8_row 43 = .ok (.getfield 24, 3) := by decide +kernel
theorem dX8_row_46 : decode cX8_row 46 = .ok (.iload_n 3, 1) := by decide +kernel
theorem dX8_row_47 : decode cX8_row 47 = .ok (.iaload, 1) := by decide +kernel
theorem dX8_row_48 : decode cX8_row 48 = .ok (.aload_n 0, 1) := by decide +kernel
theorem dX8_row_49 : decode cX8_row 49 = .ok (.getfield 24, 3) := by decide +kernel
theorem dX8_row_52 : decode cX8_row 52 = .ok (.iload_n 3, 1) := by decide +kernel
theorem dX8_row_53 : decode cX8_row 53 = .ok (.iconst 1, 1) := by decide +kernel
theorem dX8_row_54 : decode cX8_row 54 = .ok (.iadd, 1) := by decide +kernel
theorem dX8_row_55 : decode cX8_row 55 = .ok (.iaload, 1) := by decide +kernel
theorem dX8_row_56 : decode cX8_row 56 = .ok (.invokevirtual 121, 3) := by decide +kernel
theorem dX8_row_59 : decode cX8_row 59 = .ok (.ifCond .eq 56, 3) := by decide +kernel
theorem dX8_row_62 : decode cX8_row 62 = .ok (.aload_n 0, 1) := by decide +kernel
theorem dX8_row_63 : decode cX8_row 63 = .ok (.getfield 24, 3) := by decide +kernel
theorem dX8_row_66 : decode cX8_row 66 = .ok (.iload_n 3, 1) := by decide +kernel
theorem dX8_row_67 : decode cX8_row 67 = .ok (.iconst 2, 1) := by decide +kernel
theorem dX8_row_68 : decode cX8_row 68 = .ok (.iadd, 1) := by decide +kernel
theorem dX8_row_69 : decode cX8_row 69 = .ok (.iaload, 1) := by decide +kernel
theorem dX8_row_70 : decode cX8_row 70 = .ok (.bipush 9, 2) := by decide +kernel
theorem dX8_row_72 : decode cX8_row 72 = .ok (.if_icmp .gt 43, 3) := by decide +kernel
theorem dX8_row_75 : decode cX8_row 75 = .ok (.aload_n 0, 1) := by decide +kernel
theorem dX8_row_76 : decode cX8_row 76 = .ok (.getfield 10, 3) := by decide +kernel
theorem dX8_row_79 : decode cX8_row 79 = .ok (.getfield 124, 3) := by decide +kernel
theorem dX8_row_82 : decode cX8_row 82 = .ok (.aload_n 0, 1) := by decide +kernel
theorem dX8_row_83 : decode cX8_row 83 = .ok (.getfield 24, 3) := by decide +kernel
theorem dX8_row_86 : decode cX8_row 86 = .ok (.iload_n 3, 1) := by decide +kernel
theorem dX8_row_87 : decode cX8_row 87 = .ok (.iaload, 1) := by decide +kernel
theorem dX8_row_88 : decode cX8_row 88 = .ok (.bipush 8, 2) := by decide +kernel
theorem dX8_row_90 : decode cX8_row 90 = .ok (.imul, 1) := by decide +kernel
theorem dX8_row_91 : decode cX8_row 91 = .ok (.aload_n 0, 1) := by decide +kernel
theorem dX8_row_92 : decode cX8_row 92 = .ok (.getfield 24, 3) := by decide +kernel
theorem dX8_row_95 : decode cX8_row 95 = .ok (.iload_n 3, 1) := by decide +kernel
theorem dX8_row_96 : decode cX8_row 96 = .ok (.iconst 1, 1) := by decide +kernel
theorem dX8_row_97 : decode cX8_row 97 = .ok (.iadd, 1) := by decide +kernel
theorem dX8_row_98 : decode cX8_row 98 = .ok (.iaload, 1) := by decide +kernel
theorem dX8_row_99 : decode cX8_row 99 = .ok (.iadd, 1) := by decide +kernel
theorem dX8_row_100 : decode cX8_row 100 = .ok (.aload_n 0, 1) := by decide +kernel
theorem dX8_row_101 : decode cX8_row 101 = .ok (.getfield 24, 3) := by decide +kernel
theorem dX8_row_104 : decode cX8_row 104 = .ok (.iload_n 3, 1) := by decide +kernel
theorem dX8_row_105 : decode cX8_row 105 = .ok (.iconst 2, 1) := by decide +kernel
theorem dX8_row_106 : decode cX8_row 106 = .ok (.iadd, 1) := by decide +kernel
theorem dX8_row_107 : decode cX8_row 107 = .ok (.iaload, 1) := by decide +kernel
theorem dX8_row_108 : decode cX8_row 108 = .ok (.iastore, 1) := by decide +kernel
theorem dX8_row_109 : decode cX8_row 109 = .ok (.iinc 1 1, 3) := by decide +kernel
theorem dX8_row_112 : decode cX8_row 112 = .ok (.goto 6, 3) := by decide +kernel
theorem dX8_row_115 : decode cX8_row 115 = .ok (.iinc 2 1, 3) := by decide +kernel
theorem dX8_row_118 : decode cX8_row 118 = .ok (.iinc 3 3, 3) := by decide +kernel
theorem dX8_row_121 : decode cX8_row 121 = .ok (.goto (-101), 3) := by decide +kernel
theorem dX8_row_124 : decode cX8_row 124 = .ok (.aload_n 0, 1) := by decide +kernel
theorem dX8_row_125 : decode cX8_row 125 = .ok (.iconst 0, 1) := by decide +kernel
theorem dX8_row_126 : decode cX8_row 126 = .ok (.putfield 154, 3) := by decide +kernel
theorem dX8_row_129 : decode cX8_row 129 = .ok (.aload_n 0, 1) := by decide +kernel
theorem dX8_row_130 : decode cX8_row 130 = .ok (.iload_n 2, 1) := by decide +kernel
theorem dX8_row_131 : decode cX8_row 131 = .ok (.putfield 161, 3) := by decide +kernel
theorem dX8_row_134 : decode cX8_row 134 = .ok (.aload_n 0, 1) := by decide +kernel
theorem dX8_row_135 : decode cX8_row 135 = .ok (.iload_n 1, 1) := by decide +kernel
theorem dX8_row_136 : decode cX8_row 136 = .ok (.invokevirtual 99, 3) := by decide +kernel
theorem dX8_row_139 : decode cX8_row 139 = .ok (.ireturn, 1) := by decide +kernel
def bX8_row_0 (l : Launch) (E : Ev) (d : Nat) (Q : Option Value → Hp → Prop) : Kt := k_aload 0 (k_getI 8 19 4 (k_if_ne (k_push (.int 0) (k_istore 1 (k_push (.int 0) (k_istore 2 (k_push (.int 0) (k_istore 3 (Go l E YX8_row (d + 1) 0 0 Q 0 0 20))))))) (k_aload 0 (k_push (.int (-6)) (k_callV l E 8 19 YX8_refuse d 0 0 1 (k_iret .int Q))))))
set_option maxRecDepth 100000 in
set_option maxHeartbeats 4000000 in
theorem gX8_row_0 {l : Launch} {E : Ev} {d : Nat} {Q : Option Value → Hp → Prop} {ls : Lv} {st : List Value} {h : Hp} (hB : bX8_row_0 l E d Q ls st h) : Go l E YX8_row (d + 1) 0 0 Q 0 0 0 ls st h :=
  (sd_aload_n (i := 0) rfl dX8_row_0 (sd_getI clsX8 (f := 4) (by decide) (fun _ _ _ => rfl) mw_435 dX8_row_1 (sd_if_ne (tgt := 14) (by decide) dX8_row_4 (sd_iconst (v := 0) (by decide) dX8_row_14 (sd_istore_n (i := 1) rfl (by decide) dX8_row_15 (sd_iconst (v := 0) (by decide) dX8_row_16 (sd_istore_n (i := 2) rfl (by decide) dX8_row_17 (sd_iconst (v := 0) (by decide) dX8_row_18 (sd_istore_n (i := 3) rfl (by decide) dX8_row_19 (Sd.go))))))) (sd_aload_n (i := 0) rfl dX8_row_7 (sd_bipush (v := (-6)) (by decide) dX8_row_8 (sd_callV (Y' := YX8_refuse) (mc' := 0) (ms' := 0) (n := 1) clsX8.1 mw_500 mw_502 mw_0 mw_100 mw_503 rfl (okmX8_refuse) (by decide) (Nat.le_refl _) (by decide) (by decide) dX8_row_10 (sd_iret (ty := .int) rfl (by decide) (by decide) dX8_row_13)))))) : Sd l E YX8_row (d + 1) 0 0 Q 0 0 0 (bX8_row_0 l E d Q)) ls st h hB
def bX8_row_20 (l : Launch) (E : Ev) (d : Nat) (Q : Option Value → Hp → Prop) : Kt := k_iload 3 (k_aload 0 (k_getI 8 19 4 (k_icmp_ge (k_aload 0 (k_push (.int 0) (k_putI 8 19 4 (k_aload 0 (k_iload 2 (k_putI 8 19 7 (k_aload 0 (k_iload 1 (k_callV l E 8 19 YX8_accept d 0 0 1 (k_iret .int Q)))))))))) (k_iload 3 (k_push (.int 2) (k_iadd (k_aload 0 (k_getI 8 19 4 (k_icmp_ge (k_iinc 2 1 (k_iinc 3 3 (Go l E YX8_row (d + 1) 0 0 Q 0 0 20))) (k_aload 0 (k_getR 8 19 0 (k_aload 0 (k_getR 8 19 3 (k_iload 3 (k_iaload (k_aload 0 (k_getR 8 19 3 (k_iload 3 (k_push (.int 1) (k_iadd (k_iaload (k_callV l E 7 15 YX7_hasBoth d 0 0 2 (k_if_eq (k_iinc 2 1 (k_iinc 3 3 (Go l E YX8_row (d + 1) 0 0 Q 0 0 20))) (k_aload 0 (k_getR 8 19 3 (k_iload 3 (k_push (.int 2) (k_iadd (k_iaload (k_push (.int 9) (k_icmp_gt (k_iinc 2 1 (k_iinc 3 3 (Go l E YX8_row (d + 1) 0 0 Q 0 0 20))) (k_aload 0 (k_getR 8 19 0 (k_getR 7 15 5 (k_aload 0 (k_getR 8 19 3 (k_iload 3 (k_iaload (k_push (.int 8) (k_imul (k_aload 0 (k_getR 8 19 3 (k_iload 3 (k_push (.int 1) (k_iadd (k_iaload (k_iadd (k_aload 0 (k_getR 8 19 3 (k_iload 3 (k_push (.int 2) (k_iadd (k_iaload (k_iastore (k_iinc 1 1 (k_iinc 3 3 (Go l E YX8_row (d + 1) 0 0 Q 0 0 20)))))))))))))))))))))))))))))))))))))))))))))))))))))))))
set_option maxRecDepth 100000 in
set_option maxHeartbeats 4000000 in
theorem gX8_row_20 {l : Launch} {E : Ev} {d : Nat} {Q : Option Value → Hp → Prop} {ls : Lv} {st : List Value} {h : Hp} (hB : bX8_row_20 l E d Q ls st h) : Go l E YX8_row (d + 1) 0 0 Q 0 0 20 ls st h :=
  (sd_iload_n (i := 3) rfl dX8_row_20 (sd_aload_n (i := 0) rfl dX8_row_21 (sd_getI clsX8 (f := 4) (by decide) (fun _ _ _ => rfl) mw_435 dX8_row_22 (sd_icmp_ge (tgt := 124) (by decide) dX8_row_25 (sd_aload_n (i := 0) rfl dX8_row_124 (sd_iconst (v := 0) (by decide) dX8_row_125 (sd_putI clsX8 (f := 4) (by decide) (fun _ _ _ => rfl) rfl (Or.inl rfl) mw_435 dX8_row_126 (sd_aload_n (i := 0) rfl dX8_row_129 (sd_iload_n (i := 2) rfl dX8_row_130 (sd_putI clsX8 (f := 7) (by decide) (fun _ _ _ => rfl) rfl (Or.inl rfl) mw_438 dX8_row_131 (sd_aload_n (i := 0) rfl dX8_row_134 (sd_iload_n (i := 1) rfl dX8_row_135 (sd_callV (Y' := YX8_accept) (mc' := 0) (ms' := 0) (n := 1) clsX8.1 mw_504 mw_506 mw_1 mw_100 mw_507 rfl (okmX8_accept) (by decide) (Nat.le_refl _) (by decide) (by decide) dX8_row_136 (sd_iret (ty := .int) rfl (by decide) (by decide) dX8_row_139)))))))))) (sd_iload_n (i := 3) rfl dX8_row_28 (sd_iconst (v := 2) (by decide) dX8_row_29 (sd_iadd dX8_row_30 (sd_aload_n (i := 0) rfl dX8_row_31 (sd_getI clsX8 (f := 4) (by decide) (fun _ _ _ => rfl) mw_435 dX8_row_32 (sd_icmp_ge (tgt := 115) (by decide) dX8_row_35 (sd_iinc (i := 2) (v := 1) (by decide) (by decide) dX8_row_115 (sd_iinc (i := 3) (v := 3) (by decide) (by decide) dX8_row_118 (sd_goto (tgt := 20) (by decide) dX8_row_121 (Sd.go)))) (sd_aload_n (i := 0) rfl dX8_row_38 (sd_getR clsX8 (f := 0) (by decide) (fun _ _ _ => rfl) mw_431 dX8_row_39 (sd_aload_n (i := 0) rfl dX8_row_42 (sd_getR clsX8 (f := 3) (by decide) (fun _ _ _ => rfl) mw_434 dX8_row_43 (sd_iload_n (i := 3) rfl dX8_row_46 (sd_iaload dX8_row_47 (sd_aload_n (i := 0) rfl dX8_row_48 (sd_getR clsX8 (f := 3) (by decide) (fun _ _ _ => rfl) mw_434 dX8_row_49 (sd_iload_n (i := 3) rfl dX8_row_52 (sd_iconst (v := 1) (by decide) dX8_row_53 (sd_iadd dX8_row_54 (sd_iaload dX8_row_55 (sd_callV (Y' := YX7_hasBoth) (mc' := 0) (ms' := 0) (n := 2) clsX7.1 mw_541 mw_542 mw_543 mw_101 mw_544 rfl (okmX7_hasBoth) (by decide) (Nat.le_refl _) (by decide) (by decide) dX8_row_56 (sd_if_eq (tgt := 115) (by decide) dX8_row_59 (sd_iinc (i := 2) (v := 1) (by decide) (by decide) dX8_row_115 (sd_iinc (i := 3) (v := 3) (by decide) (by decide) dX8_row_118 (sd_goto (tgt := 20) (by decide) dX8_row_121 (Sd.go)))) (sd_aload_n (i := 0) rfl dX8_row_62 (sd_getR clsX8 (f := 3) (by decide) (fun _ _ _ => rfl) mw_434 dX8_row_63 (sd_iload_n (i := 3) rfl dX8_row_66 (sd_iconst (v := 2) (by decide) dX8_row_67 (sd_iadd dX8_row_68 (sd_iaload dX8_row_69 (sd_bipush (v := 9) (by decide) dX8_row_70 (sd_icmp_gt (tgt := 115) (by decide) dX8_row_72 (sd_iinc (i := 2) (v := 1) (by decide) (by decide) dX8_row_115 (sd_iinc (i := 3) (v := 3) (by decide) (by decide) dX8_row_118 (sd_goto (tgt := 20) (by decide) dX8_row_121 (Sd.go)))) (sd_aload_n (i := 0) rfl dX8_row_75 (sd_getR clsX8 (f := 0) (by decide) (fun _ _ _ => rfl) mw_431 dX8_row_76 (sd_getR clsX7 (f := 5) (by decide) (fun _ _ _ => rfl) mw_159 dX8_row_79 (sd_aload_n (i := 0) rfl dX8_row_82 (sd_getR clsX8 (f := 3) (by decide) (fun _ _ _ => rfl) mw_434 dX8_row_83 (sd_iload_n (i := 3) rfl dX8_row_86 (sd_iaload dX8_row_87 (sd_bipush (v := 8) (by decide) dX8_row_88 (sd_imul dX8_row_90 (sd_aload_n (i := 0) rfl dX8_row_91 (sd_getR clsX8 (f := 3) (by decide) (fun _ _ _ => rfl) mw_434 dX8_row_92 (sd_iload_n (i := 3) rfl dX8_row_95 (sd_iconst (v := 1) (by decide) dX8_row_96 (sd_iadd dX8_row_97 (sd_iaload dX8_row_98 (sd_iadd dX8_row_99 (sd_aload_n (i := 0) rfl dX8_row_100 (sd_getR clsX8 (f := 3) (by decide) (fun _ _ _ => rfl) mw_434 dX8_row_101 (sd_iload_n (i := 3) rfl dX8_row_104 (sd_iconst (v := 2) (by decide) dX8_row_105 (sd_iadd dX8_row_106 (sd_iaload dX8_row_107 (sd_iastore dX8_row_108 (sd_iinc (i := 1) (v := 1) (by decide) (by decide) dX8_row_109 (sd_goto (tgt := 118) (by decide) dX8_row_112 (sd_iinc (i := 3) (v := 3) (by decide) (by decide) dX8_row_118 (sd_goto (tgt := 20) (by decide) dX8_row_121 (Sd.go))))))))))))))))))))))))))))))))))))))))))))))))))))))))))) : Sd l E YX8_row (d + 1) 0 0 Q 0 0 20 (bX8_row_20 l E d Q)) ls st h hB
theorem eX8_row {l : Launch} {E : Ev} {d : Nat} {Q : Option Value → Hp → Prop} {h : Hp} {a0 : Nat} (hk : Go l E YX8_row d 0 0 Q 0 0 0 [some (.ref a0), none, none, none] [] h) : GoM l E YX8_row d 0 0 [.ref a0] h Q := GoM.of (by decide +kernel) rfl (by simp [entA, YX8_row]) hk
theorem dX8_forgot_0 : decode cX8_forgot 0 = .ok (.aload_n 0, 1) := by decide +kernel
theorem dX8_forgot_1 : decode cX8_forgot 1 = .ok (.getfield 161, 3) := by decide +kernel
theorem dX8_forgot_4 : decode cX8_forgot 4 = .ok (.ireturn, 1) := by decide +kernel
def bX8_forgot_0 (l : Launch) (E : Ev) (d : Nat) (Q : Option Value → Hp → Prop) : Kt := k_aload 0 (k_getI 8 19 7 (k_iret .int Q))
set_option maxRecDepth 100000 in
set_option maxHeartbeats 4000000 in
theorem gX8_forgot_0 {l : Launch} {E : Ev} {d : Nat} {Q : Option Value → Hp → Prop} {ls : Lv} {st : List Value} {h : Hp} (hB : bX8_forgot_0 l E d Q ls st h) : Go l E YX8_forgot (d + 1) 0 0 Q 0 0 0 ls st h :=
  (sd_aload_n (i := 0) rfl dX8_forgot_0 (sd_getI clsX8 (f := 7) (by decide) (fun _ _ _ => rfl) mw_438 dX8_forgot_1 (sd_iret (ty := .int) rfl (by decide) (by decide) dX8_forgot_4)) : Sd l E YX8_forgot (d + 1) 0 0 Q 0 0 0 (bX8_forgot_0 l E d Q)) ls st h hB
theorem eX8_forgot {l : Launch} {E : Ev} {d : Nat} {Q : Option Value → Hp → Prop} {h : Hp} {a0 : Nat} (hk : Go l E YX8_forgot d 0 0 Q 0 0 0 [some (.ref a0)] [] h) : GoM l E YX8_forgot d 0 0 [.ref a0] h Q := GoM.of (by decide +kernel) rfl (by simp [entA, YX8_forgot]) hk
theorem dX8_law_0 : decode cX8_law 0 = .ok (.aload_n 0, 1) := by decide +kernel
theorem dX8_law_1 : decode cX8_law 1 = .ok (.getfield 154, 3) := by decide +kernel
theorem dX8_law_4 : decode cX8_law 4 = .ok (.istore_n 1, 1) := by decide +kernel
theorem dX8_law_5 : decode cX8_law 5 = .ok (.aload_n 0, 1) := by decide +kernel
theorem dX8_law_6 : decode cX8_law 6 = .ok (.iconst 0, 1) := by decide +kernel
theorem dX8_law_7 : decode cX8_law 7 = .ok (.putfield 154, 3) := by decide +kernel
theorem dX8_law_10 : decode cX8_law 10 = .ok (.aload_n 0, 1) := by decide +kernel
theorem dX8_law_11 : decode cX8_law 11 = .ok (.getfield 10, 3) := by decide +kernel
theorem dX8_law_14 : decode cX8_law 14 = .ok (.getfield 164, 3) := by decide +kernel
theorem dX8_law_17 : decode cX8_law 17 = .ok (.bipush 6, 2) := by decide +kernel
theorem dX8_law_19 : decode cX8_law 19 = .ok (.if_icmp .lt 10, 3) := by decide +kernel
theorem dX8_law_22 : decode cX8_law 22 = .ok (.aload_n 0, 1) := by decide +kernel
theorem dX8_law_23 : decode cX8_law 23 = .ok (.bipush (-5), 2) := by decide +kernel
theorem dX8_law_25 : decode cX8_law 25 = .ok (.invokevirtual 89, 3) := by decide +kernel
theorem dX8_law_28 : decode cX8_law 28 = .ok (.ireturn, 1) := by decide +kernel
theorem dX8_law_29 : decode cX8_law 29 = .ok (.aload_n 0, 1) := by decide +kernel
theorem dX8_law_30 : decode cX8_law 30 = .ok (.getfield 31, 3) := by decide +kernel
theorem dX8_law_33 : decode cX8_law 33 = .ok (.aload_n 0, 1) := by decide +kernel
theorem dX8_law_34 : decode cX8_law 34 = .ok (.getfield 24, 3) := by decide +kernel
theorem dX8_law_37 : decode cX8_law 37 = .ok (.iload_n 1, 1) := by decide +kernel
theorem dX8_law_38 : decode cX8_law 38 = .ok (.invokevirtual 167, 3) := by decide +kernel
theorem dX8_law_41 : decode cX8_law 41 = .ok (.astore_n 2, 1) := by decide +kernel
theorem dX8_law_42 : decode cX8_law 42 = .ok (.aload_n 0, 1) := by decide +kernel
theorem dX8_law_43 : decode cX8_law 43 = .ok (.aload_n 0, 1) := by decide +kernel
theorem dX8_law_44 : decode cX8_law 44 = .ok (.getfield 31, 3) := by decide +kernel
theorem dX8_law_47 : decode cX8_law 47 = .ok (.getfield 171, 3) := by decide +kernel
theorem dX8_law_50 : decode cX8_law 50 = .ok (.putfield 35, 3) := by decide +kernel
theorem dX8_law_53 : decode cX8_law 53 = .ok (.aload_n 2, 1) := by decide +kernel
theorem dX8_law_54 : decode cX8_law 54 = .ok (.ifnonnull 10, 3) := by decide +kernel
theorem dX8_law_57 : decode cX8_law 57 = .ok (.aload_n 0, 1) := by decide +kernel
theorem dX8_law_58 : decode cX8_law 58 = .ok (.bipush (-6), 2) := by decide +kernel
theorem dX8_law_60 : decode cX8_law 60 = .ok (.invokevirtual 89, 3) := by decide +kernel
theorem dX8_law_63 : decode cX8_law 63 = .ok (.ireturn, 1) := by decide +kernel
theorem dX8_law_64 : decode cX8_law 64 = .ok (.aload_n 0, 1) := by decide +kernel
theorem dX8_law_65 : decode cX8_law 65 = .ok (.getfield 10, 3) := by decide +kernel
theorem dX8_law_68 : decode cX8_law 68 = .ok (.getfield 174, 3) := by decide +kernel
theorem dX8_law_71 : decode cX8_law 71 = .ok (.aload_n 0, 1) := by decide +kernel
theorem dX8_law_72 : decode cX8_law 72 = .ok (.getfield 10, 3) := by decide +kernel
theorem dX8_law_75 : decode cX8_law 75 = .ok (.getfield 164, 3) := by decide +kernel
theorem dX8_law_78 : decode cX8_law 78 = .ok (.aload_n 2, 1) := by decide +kernel
theorem dX8_law_79 : decode cX8_law 79 = .ok (.aastore, 1) := by decide +kernel
theorem dX8_law_80 : decode cX8_law 80 = .ok (.aload_n 0, 1) := by decide +kernel
theorem dX8_law_81 : decode cX8_law 81 = .ok (.getfield 10, 3) := by decide +kernel
theorem dX8_law_84 : decode cX8_law 84 = .ok (.dup, 1) := by decide +kernel
theorem dX8_law_85 : decode cX8_law 85 = .ok (.getfield 164, 3) := by decide +kernel
theorem dX8_law_88 : decode cX8_law 88 = .ok (.iconst 1, 1) := by decide +kernel
theorem dX8_law_89 : decode cX8_law 89 = .ok (.iadd, 1) := by decide +kernel
theorem dX8_law_90 : decode cX8_law 90 = .ok (.putfield 164, 3) := by decide +kernel
theorem dX8_law_93 : decode cX8_law 93 = .ok (.aload_n 0, 1) := by decide +kernel
theorem dX8_law_94 : decode cX8_law 94 = .ok (.aload_n 0, 1) := by decide +kernel
theorem dX8_law_95 : decode cX8_law 95 = .ok (.getfield 10, 3) := by decide +kernel
theorem dX8_law_98 : decode cX8_law 98 = .ok (.getfield 164, 3) := by decide +kernel
theorem dX8_law_101 : decode cX8_law 101 = .ok (.iconst 1, 1) := by decide +kernel
theorem dX8_law_102 : decode cX8_law 102 = .ok (.isub, 1) := by decide +kernel
theorem dX8_law_103 : decode cX8_law 103 = .ok (.invokevirtual 99, 3) := by decide +kernel
theorem dX8_law_106 : decode cX8_law 106 = .ok (.ireturn, 1) := by decide +kernel
def bX8_law_0 (l : Launch) (E : Ev) (d : Nat) (Q : Option Value → Hp → Prop) : Kt := k_aload 0 (k_getI 8 19 4 (k_istore 1 (k_aload 0 (k_push (.int 0) (k_putI 8 19 4 (k_aload 0 (k_getR 8 19 0 (k_getI 7 15 9 (k_push (.int 6) (k_icmp_lt (k_aload 0 (k_getR 8 19 5 (k_aload 0 (k_getR 8 19 3 (k_iload 1 (k_callV l E 5 12 YX5_read d 4 1203 2 (k_astore 2 (k_aload 0 (k_aload 0 (k_getR 8 19 5 (k_getI 5 12 11 (k_putI 8 19 6 (k_aload 2 (k_ifnonnull (k_aload 0 (k_getR 8 19 0 (k_getR 7 15 8 (k_aload 0 (k_getR 8 19 0 (k_getI 7 15 9 (k_aload 2 (k_aastore 4 2 3 (k_aload 0 (k_getR 8 19 0 (k_dup (k_getI 7 15 9 (k_push (.int 1) (k_iadd (k_putI 7 15 9 (k_aload 0 (k_aload 0 (k_getR 8 19 0 (k_getI 7 15 9 (k_push (.int 1) (k_isub (k_callV l E 8 19 YX8_accept d 0 0 1 (k_iret .int Q))))))))))))))))))))))) (k_aload 0 (k_push (.int (-6)) (k_callV l E 8 19 YX8_refuse d 0 0 1 (k_iret .int Q)))))))))))))))))) (k_aload 0 (k_push (.int (-5)) (k_callV l E 8 19 YX8_refuse d 0 0 1 (k_iret .int Q))))))))))))))
set_option maxRecDepth 100000 in
set_option maxHeartbeats 4000000 in
theorem gX8_law_0 {l : Launch} {E : Ev} {d : Nat} {Q : Option Value → Hp → Prop} {ls : Lv} {st : List Value} {h : Hp} (hB : bX8_law_0 l E d Q ls st h) : Go l E YX8_law (d + 1) 4 1203 Q 0 0 0 ls st h :=
  (sd_aload_n (i := 0) rfl dX8_law_0 (sd_getI clsX8 (f := 4) (by decide) (fun _ _ _ => rfl) mw_435 dX8_law_1 (sd_istore_n (i := 1) rfl (by decide) dX8_law_4 (sd_aload_n (i := 0) rfl dX8_law_5 (sd_iconst (v := 0) (by decide) dX8_law_6 (sd_putI clsX8 (f := 4) (by decide) (fun _ _ _ => rfl) rfl (Or.inl rfl) mw_435 dX8_law_7 (sd_aload_n (i := 0) rfl dX8_law_10 (sd_getR clsX8 (f := 0) (by decide) (fun _ _ _ => rfl) mw_431 dX8_law_11 (sd_getI clsX7 (f := 9) (by decide) (fun _ _ _ => rfl) mw_170 dX8_law_14 (sd_bipush (v := 6) (by decide) dX8_law_17 (sd_icmp_lt (tgt := 29) (by decide) dX8_law_19 (sd_aload_n (i := 0) rfl dX8_law_29 (sd_getR clsX8 (f := 5) (by decide) (fun _ _ _ => rfl) mw_436 dX8_law_30 (sd_aload_n (i := 0) rfl dX8_law_33 (sd_getR clsX8 (f := 3) (by decide) (fun _ _ _ => rfl) mw_434 dX8_law_34 (sd_iload_n (i := 1) rfl dX8_law_37 (sd_callV (Y' := YX5_read) (mc' := 4) (ms' := 1203) (n := 2) clsX5.1 mw_631 mw_632 mw_633 mw_102 mw_634 rfl (okmX5_read) (by decide) (Nat.le_refl _) (by decide) (by decide) dX8_law_38 (sd_astore_n (i := 2) rfl (by decide) dX8_law_41 (sd_aload_n (i := 0) rfl dX8_law_42 (sd_aload_n (i := 0) rfl dX8_law_43 (sd_getR clsX8 (f := 5) (by decide) (fun _ _ _ => rfl) mw_436 dX8_law_44 (sd_getI clsX5 (f := 11) (by decide) (fun _ _ _ => rfl) mw_234 dX8_law_47 (sd_putI clsX8 (f := 6) (by decide) (fun _ _ _ => rfl) rfl (Or.inl rfl) mw_437 dX8_law_50 (sd_aload_n (i := 2) rfl dX8_law_53 (sd_ifnonnull (tgt := 64) (by decide) dX8_law_54 (sd_aload_n (i := 0) rfl dX8_law_64 (sd_getR clsX8 (f := 0) (by decide) (fun _ _ _ => rfl) mw_431 dX8_law_65 (sd_getR clsX7 (f := 8) (by decide) (fun _ _ _ => rfl) mw_168 dX8_law_68 (sd_aload_n (i := 0) rfl dX8_law_71 (sd_getR clsX8 (f := 0) (by decide) (fun _ _ _ => rfl) mw_431 dX8_law_72 (sd_getI clsX7 (f := 9) (by decide) (fun _ _ _ => rfl) mw_170 dX8_law_75 (sd_aload_n (i := 2) rfl dX8_law_78 (sd_aastore (ki := 4) (ci := 2) (N := 3) (by decide) dX8_law_79 (sd_aload_n (i := 0) rfl dX8_law_80 (sd_getR clsX8 (f := 0) (by decide) (fun _ _ _ => rfl) mw_431 dX8_law_81 (sd_dup dX8_law_84 (sd_getI clsX7 (f := 9) (by decide) (fun _ _ _ => rfl) mw_170 dX8_law_85 (sd_iconst (v := 1) (by decide) dX8_law_88 (sd_iadd dX8_law_89 (sd_putI clsX7 (f := 9) (by decide) (fun _ _ _ => rfl) rfl (Or.inl rfl) mw_170 dX8_law_90 (sd_aload_n (i := 0) rfl dX8_law_93 (sd_aload_n (i := 0) rfl dX8_law_94 (sd_getR clsX8 (f := 0) (by decide) (fun _ _ _ => rfl) mw_431 dX8_law_95 (sd_getI clsX7 (f := 9) (by decide) (fun _ _ _ => rfl) mw_170 dX8_law_98 (sd_iconst (v := 1) (by decide) dX8_law_101 (sd_isub dX8_law_102 (sd_callV (Y' := YX8_accept) (mc' := 0) (ms' := 0) (n := 1) clsX8.1 mw_504 mw_506 mw_1 mw_100 mw_507 rfl (okmX8_accept) (by decide) (Nat.le_refl _) (by decide) (by decide) dX8_law_103 (sd_iret (ty := .int) rfl (by decide) (by decide) dX8_law_106))))))))))))))))))))))) (sd_aload_n (i := 0) rfl dX8_law_57 (sd_bipush (v := (-6)) (by decide) dX8_law_58 (sd_callV (Y' := YX8_refuse) (mc' := 0) (ms' := 0) (n := 1) clsX8.1 mw_500 mw_502 mw_0 mw_100 mw_503 rfl (okmX8_refuse) (by decide) (Nat.le_refl _) (by decide) (by decide) dX8_law_60 (sd_iret (ty := .int) rfl (by decide) (by decide) dX8_law_63)))))))))))))))))) (sd_aload_n (i := 0) rfl dX8_law_22 (sd_bipush (v := (-5)) (by decide) dX8_law_23 (sd_callV (Y' := YX8_refuse) (mc' := 0) (ms' := 0) (n := 1) clsX8.1 mw_500 mw_502 mw_0 mw_100 mw_503 rfl (okmX8_refuse) (by decide) (Nat.le_refl _) (by decide) (by decide) dX8_law_25 (sd_iret (ty := .int) rfl (by decide) (by decide) dX8_law_28)))))))))))))) : Sd l E YX8_law (d + 1) 4 1203 Q 0 0 0 (bX8_law_0 l E d Q)) ls st h hB
theorem eX8_law {l : Launch} {E : Ev} {d : Nat} {Q : Option Value → Hp → Prop} {h : Hp} {a0 : Nat} (hk : Go l E YX8_law d 4 1203 Q 0 0 0 [some (.ref a0), none, none] [] h) : GoM l E YX8_law d 4 1203 [.ref a0] h Q := GoM.of (by decide +kernel) rfl (by simp [entA, YX8_law]) hk
theorem dX8_fault_0 : decode cX8_fault 0 = .ok (.aload_n 0, 1) := by decide +kernel
theorem dX8_fault_1 : decode cX8_fault 1 = .ok (.getfield 35, 3) := by decide +kernel
theorem dX8_fault_4 : decode cX8_fault 4 = .ok (.ireturn, 1) := by decide +kernel
def bX8_fault_0 (l : Launch) (E : Ev) (d : Nat) (Q : Option Value → Hp → Prop) : Kt := k_aload 0 (k_getI 8 19 6 (k_iret .int Q))
set_option maxRecDepth 100000 in
set_option maxHeartbeats 4000000 in
theorem gX8_fault_0 {l : Launch} {E : Ev} {d : Nat} {Q : Option Value → Hp → Prop} {ls : Lv} {st : List Value} {h : Hp} (hB : bX8_fault_0 l E d Q ls st h) : Go l E YX8_fault (d + 1) 0 0 Q 0 0 0 ls st h :=
  (sd_aload_n (i := 0) rfl dX8_fault_0 (sd_getI clsX8 (f := 6) (by decide) (fun _ _ _ => rfl) mw_437 dX8_fault_1 (sd_iret (ty := .int) rfl (by decide) (by decide) dX8_fault_4)) : Sd l E YX8_fault (d + 1) 0 0 Q 0 0 0 (bX8_fault_0 l E d Q)) ls st h hB
theorem eX8_fault {l : Launch} {E : Ev} {d : Nat} {Q : Option Value → Hp → Prop} {h : Hp} {a0 : Nat} (hk : Go l E YX8_fault d 0 0 Q 0 0 0 [some (.ref a0)] [] h) : GoM l E YX8_fault d 0 0 [.ref a0] h Q := GoM.of (by decide +kernel) rfl (by simp [entA, YX8_fault]) hk
