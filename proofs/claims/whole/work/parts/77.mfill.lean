/-! the reference fills its rows in place, from the largest set down -/
theorem xr_lt_self {T c : Nat} (h : c &&& T = c) (h0 : c ≠ 0) : T ^^^ c < T := by
  have h1 : (T ^^^ c) &&& T = T ^^^ c := by
    rw [sub_iff]; intro i hi; exact ((xr_tb h).mp hi).1
  have h2 := sub_le h1
  have h3 : T ^^^ c ≠ T := by
    intro q
    apply h0
    refine Nat.eq_of_testBit_eq fun i => ?_
    have := tb_of_eq q i
    rw [Nat.testBit_xor] at this
    rw [Nat.zero_testBit]
    revert this
    cases T.testBit i <;> cases c.testBit i <;> simp
  omega
section NJ
variable (sg : Nat → Nat → Bool) (pr : Nat → Nat → Nat → Bool) (wt : Nat → Nat → Nat) (O : Nat → Nat → Nat) (a : Nat)
def n1F (j T p k : Nat) : Nat := if (sg a p = true ∧ T.testBit p = true) ∧ j ≤ T ^^^ 2 ^ p then sh (O (T ^^^ 2 ^ p)) (wt a p) k else 0
def n2F (j T p q k : Nat) : Nat := if ((q < p ∧ pr a p q = true) ∧ T.testBit p = true ∧ T.testBit q = true) ∧ j ≤ T ^^^ (2 ^ p ||| 2 ^ q) then sh (O (T ^^^ (2 ^ p ||| 2 ^ q))) (wt a p + wt a q) k else 0
def NjF (j T k : Nat) : Nat := O T k + sumN 8 (fun p => n1F sg wt O a j T p k + sumN 8 (fun q => n2F pr wt O a j T p q k))
def t1F (s T p k : Nat) : Nat := if (sg a p = true ∧ T.testBit p = true) ∧ T ^^^ 2 ^ p = s then sh (O s) (wt a p) k else 0
def t2F (s T p q k : Nat) : Nat := if ((q < p ∧ pr a p q = true) ∧ T.testBit p = true ∧ T.testBit q = true) ∧ T ^^^ (2 ^ p ||| 2 ^ q) = s then sh (O s) (wt a p + wt a q) k else 0
def MqF (s p q T k : Nat) : Nat := NjF sg pr wt O a (s + 1) T k + sumN p (fun p => t1F sg wt O a s T p k + sumN 8 (fun q => t2F pr wt O a s T p q k)) + t1F sg wt O a s T p k + sumN q (fun q => t2F pr wt O a s T p q k)
def MpF (s p T k : Nat) : Nat := NjF sg pr wt O a (s + 1) T k + sumN p (fun p => t1F sg wt O a s T p k + sumN 8 (fun q => t2F pr wt O a s T p q k))
theorem n1_s (s T p k : Nat) : n1F sg wt O a s T p k = n1F sg wt O a (s + 1) T p k + t1F sg wt O a s T p k := by
  unfold n1F t1F
  by_cases c : sg a p = true ∧ T.testBit p = true
  · rcases Nat.lt_trichotomy (T ^^^ 2 ^ p) s with q | q | q
    · rw [if_neg (fun x => by omega), if_neg (fun x => by omega), if_neg (fun x => by omega)]
    · rw [if_pos ⟨c, by omega⟩, if_neg (fun x => by omega), if_pos ⟨c, q⟩, q, Nat.zero_add]
    · rw [if_pos ⟨c, by omega⟩, if_pos ⟨c, by omega⟩, if_neg (fun x => by omega), Nat.add_zero]
  · rw [if_neg (fun x => c x.1), if_neg (fun x => c x.1), if_neg (fun x => c x.1)]
theorem n2_s (s T p q k : Nat) : n2F pr wt O a s T p q k = n2F pr wt O a (s + 1) T p q k + t2F pr wt O a s T p q k := by
  unfold n2F t2F
  by_cases c : (q < p ∧ pr a p q = true) ∧ T.testBit p = true ∧ T.testBit q = true
  · rcases Nat.lt_trichotomy (T ^^^ (2 ^ p ||| 2 ^ q)) s with x | x | x
    · rw [if_neg (fun y => by have := y.2; omega), if_neg (fun y => by have := y.2; omega), if_neg (fun y => by have := y.2; omega)]
    · rw [if_pos ⟨c, by omega⟩, if_neg (fun y => by have := y.2; omega), if_pos ⟨c, x⟩, x, Nat.zero_add]
    · rw [if_pos ⟨c, by omega⟩, if_pos ⟨c, by omega⟩, if_neg (fun y => by have := y.2; omega), Nat.add_zero]
  · rw [if_neg (fun x => c x.1), if_neg (fun x => c x.1), if_neg (fun x => c x.1)]
theorem Nj_s (s T k : Nat) : NjF sg pr wt O a s T k = MpF sg pr wt O a s 8 T k := by
  unfold MpF NjF
  rw [Nat.add_assoc, ← sumN_add]
  congr 1
  refine sumN_cong fun p _ => ?_
  rw [n1_s, sumN_cong (fun q _ => n2_s pr wt O a s T p q k), sumN_add]
  omega
theorem Mq_0 (s p T k : Nat) : MqF sg pr wt O a s p 0 T k = MpF sg pr wt O a s p T k + t1F sg wt O a s T p k := rfl
theorem Mq_8 (s p T k : Nat) : MqF sg pr wt O a s p 8 T k = MpF sg pr wt O a s (p + 1) T k := by
  unfold MqF MpF
  rw [show sumN (p + 1) (fun p => t1F sg wt O a s T p k + sumN 8 (fun q => t2F pr wt O a s T p q k)) = sumN p (fun p => t1F sg wt O a s T p k + sumN 8 (fun q => t2F pr wt O a s T p q k)) + (t1F sg wt O a s T p k + sumN 8 (fun q => t2F pr wt O a s T p q k)) from rfl]
  omega
theorem Mq_s (s p q T k : Nat) : MqF sg pr wt O a s p (q + 1) T k = MqF sg pr wt O a s p q T k + t2F pr wt O a s T p q k := by
  unfold MqF
  rw [sumN]
  omega
theorem Mp_s (s p T k : Nat) : MpF sg pr wt O a s (p + 1) T k = MpF sg pr wt O a s p T k + (t1F sg wt O a s T p k + sumN 8 (fun q => t2F pr wt O a s T p q k)) := by
  unfold MpF
  rw [sumN]
  omega
theorem Nj_top {J T : Nat} (h : T < J) (k : Nat) : NjF sg pr wt O a J T k = O T k := by
  unfold NjF
  rw [sumN_0, Nat.add_zero]
  intro p hp
  have e1 : n1F sg wt O a J T p k = 0 := if_neg fun x => by
    have := xr_lt_self (sub_1.mpr x.1.2) (by have := Nat.two_pow_pos p; omega)
    omega
  rw [e1, Nat.zero_add]
  refine sumN_0 fun q hq => if_neg fun x => ?_
  have := xr_lt_self (sub_2.mpr x.1.2) (fun z => by
    have := tb_of_eq z p
    rw [Nat.testBit_or, Nat.testBit_two_pow_self, Nat.zero_testBit] at this; cases this)
  have := x.2
  omega
theorem Mp_self (s p k : Nat) : MpF sg pr wt O a s p s k = O s k := by
  unfold MpF
  rw [Nj_top sg pr wt O a (Nat.lt_succ_self s), sumN_0, Nat.add_zero]
  intro p hp
  have e1 : t1F sg wt O a s s p k = 0 := if_neg fun x => by
    have := xr_lt_self (sub_1.mpr x.1.2) (by have := Nat.two_pow_pos p; omega)
    have := x.2
    omega
  rw [e1, Nat.zero_add]
  refine sumN_0 fun q hq => if_neg fun x => ?_
  have := xr_lt_self (sub_2.mpr x.1.2) (fun z => by
    have := tb_of_eq z p
    rw [Nat.testBit_or, Nat.testBit_two_pow_self, Nat.zero_testBit] at this; cases this)
  have := x.2
  omega
theorem t1_self (s p k : Nat) : t1F sg wt O a s s p k = 0 := if_neg fun x => by
  have := xr_lt_self (sub_1.mpr x.1.2) (by have := Nat.two_pow_pos p; omega)
  have := x.2
  omega
theorem t2_self (s p q k : Nat) : t2F pr wt O a s s p q k = 0 := if_neg fun x => by
  have := xr_lt_self (sub_2.mpr x.1.2) (fun z => by
    have := tb_of_eq z p
    rw [Nat.testBit_or, Nat.testBit_two_pow_self, Nat.zero_testBit] at this; cases this)
  have := x.2
  omega
theorem Mq_self (s p q k : Nat) : MqF sg pr wt O a s p q s k = O s k := by
  have e : MqF sg pr wt O a s p q s k = MpF sg pr wt O a s p s k + t1F sg wt O a s s p k + sumN q (fun q => t2F pr wt O a s s p q k) := rfl
  rw [e, Mp_self, t1_self, sumN_0 fun q _ => t2_self pr wt O a s p q k]
  rfl
theorem Nj_mono (j T k : Nat) : NjF sg pr wt O a (j + 1) T k ≤ NjF sg pr wt O a j T k := by
  rw [Nj_s sg pr wt O a j]
  unfold MpF
  exact Nat.le_add_right _ _
theorem Nj_le0 (T k : Nat) : ∀ j, NjF sg pr wt O a j T k ≤ NjF sg pr wt O a 0 T k
  | 0 => Nat.le_refl _
  | j + 1 => Nat.le_trans (Nj_mono sg pr wt O a j T k) (Nj_le0 T k j)
theorem Mq_le {s p q T k : Nat} (hp : p < 8) (hq : q ≤ 8) : MqF sg pr wt O a s p q T k ≤ NjF sg pr wt O a 0 T k := by
  refine Nat.le_trans ?_ (Nj_le0 sg pr wt O a T k s)
  rw [Nj_s sg pr wt O a s]
  have h1 := sumN_mono (F := fun q => t2F pr wt O a s T p q k) hq
  have h2 := sumN_mono (F := fun p => t1F sg wt O a s T p k + sumN 8 (fun q => t2F pr wt O a s T p q k)) (show p + 1 ≤ 8 by omega)
  rw [sumN] at h2
  unfold MqF MpF
  omega
theorem Mp_le {s p T k : Nat} (hp : p ≤ 8) : MpF sg pr wt O a s p T k ≤ NjF sg pr wt O a 0 T k := by
  refine Nat.le_trans ?_ (Nj_le0 sg pr wt O a T k s)
  rw [Nj_s sg pr wt O a s]
  have h2 := sumN_mono (F := fun p => t1F sg wt O a s T p k + sumN 8 (fun q => t2F pr wt O a s T p q k)) hp
  unfold MpF
  omega
end NJ
theorem Nj_0 (sg : Nat → Nat → Bool) (pr : Nat → Nat → Nat → Bool) (wt : Nat → Nat → Nat) (a T k : Nat) : NjF sg pr wt (Cm (muOf sg pr) (wm wt) a) a 0 T k = Cm (muOf sg pr) (wm wt) (a + 1) T k := by
  rw [Cm_step]
  unfold NjF
  rw [sumN_add, Nat.add_assoc]
  congr 1
  congr 1
  · refine sumN_cong fun p _ => ?_
    unfold n1F
    by_cases c : sg a p = true ∧ T.testBit p = true
    · rw [if_pos ⟨c, Nat.zero_le _⟩, if_pos c]
    · rw [if_neg (fun x => c x.1), if_neg c]
  · refine sumN_cong fun p _ => sumN_cong fun q _ => ?_
    unfold n2F
    by_cases c : (q < p ∧ pr a p q = true) ∧ T.testBit p = true ∧ T.testBit q = true
    · rw [if_pos ⟨c, Nat.zero_le _⟩, if_pos c]
    · rw [if_neg (fun x => c x.1), if_neg c]
/-- what the reference's search looks at -/
def MC (h : Hp) (na np : Nat) (can : Nat → Nat → Bool) (co : Nat → Nat → Nat) (fx : Nat → Int32) : Prop := (na ≤ 8 ∧ np ≤ 8) ∧ (hI h 81 0 = nI na ∧ hI h 81 1 = nI np) ∧ (∀ a, a < na → ∀ p, p < np → hI h 95 (8 * a + p) = bI (can a p = true) ∧ hI h 96 (8 * a + p) = nI (co a p)) ∧ ∀ p, p < 8 → hI h 100 p = fx p
def mayB (np : Nat) (can : Nat → Nat → Bool) (fx : Nat → Int32) (a p : Nat) : Bool := (decide (p < np) && can a p) && (decide (fx p = -1) || decide (fx p = nI a))
def dblB (f : Nat → Int32) (p q : Nat) : Bool := decide (f 6 = 1 ∧ f (42 + 4 * p + 2) &&& f (42 + 4 * q + 2) = 0)
def sgM (np ill : Nat) (can : Nat → Nat → Bool) (fx : Nat → Int32) (a p : Nat) : Bool := !ill.testBit a && mayB np can fx a p
def prM (f : Nat → Int32) (np ill : Nat) (can : Nat → Nat → Bool) (fx : Nat → Int32) (a p q : Nat) : Bool := !ill.testBit a && (mayB np can fx a p && mayB np can fx a q && dblB f p q)
section FM
variable {l : Launch} {E : Ev} {d : Nat} {Q : Option Value → Hp → Prop} {h : Hp}
theorem MC.kp {S : Nat → Nat → Prop} {h2 : Hp} {na np : Nat} {can : Nat → Nat → Bool} {co : Nat → Nat → Nat} {fx : Nat → Int32} (N : MC h na np can co fx) (K : Kp S h h2) (hs : ∀ a i, S a i → a = 79 ∨ (97 ≤ a ∧ a ≤ 99)) : MC h2 na np can co fx := by
  obtain ⟨n1, ⟨n2, n3⟩, n4, n5⟩ := N
  have o : ∀ x i, ¬ (x = 79 ∨ (97 ≤ x ∧ x ≤ 99)) → hI h2 x i = hI h x i := fun x i q => K.i (fun y => q (hs x i y))
  refine ⟨n1, ⟨?_, ?_⟩, fun a ha p hp => ⟨?_, ?_⟩, fun p hp => ?_⟩
  · rw [o _ _ (by omega)]; exact n2
  · rw [o _ _ (by omega)]; exact n3
  · rw [o _ _ (by omega)]; exact (n4 a ha p hp).1
  · rw [o _ _ (by omega)]; exact (n4 a ha p hp).2
  · rw [o _ _ (by omega)]; exact n5 p hp
theorem m_may {na np a p : Nat} {can : Nat → Nat → Bool} {co : Nat → Nat → Nat} {fx : Nat → Int32} (w : WF h) (N : MC h na np can co fx) (ha : a < na) (hp : p < np) (hQ : Q (some (.int (bI (mayB np can fx a p = true)))) h) : GoM l E YX9_may (d + 1) 0 0 [.ref 79, .int (nI a), .int (nI p)] h Q := by
  obtain ⟨⟨z1, z2⟩, -, n4, n5⟩ := N
  have e1 := (n4 a ha p hp).1
  have e2 := n5 p (by omega)
  refine eX9_may (gX9_may_0 ?_)
  simp (disch := omega) only [↓lgetK, ↓lputK, ↓clrV, ↓lclrK, ↓ls1K, ↓ls2K, ↓pop1i, ↓pop1l, ↓pop1r, ↓pop2i, ↓pop2l, ↓popil, ↓popir, ↓poplr, ↓popiir, ↓popliir, ↓catS, ↓popNK, ↓k_push, ↓gvI, ↓gvL, ↓gvA, ↓k_iload, ↓k_lload, ↓k_aload, ↓k_istore, ↓k_lstore, ↓k_astore, ↓k_iinc, ↓k_iadd, ↓k_isub, ↓k_imul, ↓k_iand, ↓k_ior, ↓k_ixor, ↓k_ishl, ↓k_ishr, ↓k_iushr, ↓k_irem, ↓k_ladd, ↓k_lsub, ↓k_lmul, ↓k_land, ↓k_lor, ↓k_lxor, ↓k_ldiv, ↓k_lrem, ↓k_lcmp, ↓k_lshl, ↓k_lshr, ↓k_lushr, ↓k_ineg, ↓k_i2l, ↓k_l2i, ↓k_i2c, ↓k_dup, ↓k_pop, ↓k_dup2, ↓k_dup_x1, ↓k_if_eq, ↓k_icmp_eq, ↓k_if_ne, ↓k_icmp_ne, ↓k_if_lt, ↓k_icmp_lt, ↓k_if_ge, ↓k_icmp_ge, ↓k_if_gt, ↓k_icmp_gt, ↓k_if_le, ↓k_icmp_le, ↓k_ifnonnull, ↓swK, ↓k_sw, ↓k_iret, ↓k_lret, ↓k_vret, ↓k_aret, ↓k_getI, ↓k_getJ, ↓k_getR, ↓k_putI, ↓k_putZ, ↓k_putJ, ↓k_putR, ↓kk_iaload, ↓kk_laload, ↓kk_zaload, ↓k_aaload, ↓k_iastore, ↓k_lastore, ↓k_zastore, ↓k_aastore, ↓k_alen, ↓k_new, ↓k_newarr, ↓k_anew, ↓kk_callV, ↓kk_callI, ↓kk_callS, ↓k_objInit, ↓k_copyI, ↓k_copyJ, ↓k_gets, ↓k_getsC, ↓k_getsF, ↓k_ldcS, ↓k_coder, ↓k_value, ↓k_baload, ↓k_blen, ↓k_callT, ↓k_clone, ↓k_castI, ↓k_mmax, ↓k_mmin, ↓k_mminl, ↓kont_s, ↓kont_n, ↓pR_s, isC1, Value.category, ↓rfT_10_2, ↓rfT_10_3, ↓rfT_10_4, ↓rfT_10_5, ↓rfT_10_7, ↓rfT_10_8, ↓rfT_10_11, ↓rfT_10_13, ↓rfT_20_2, ↓rfT_20_3, ↓rfT_20_4, ↓rfT_20_5, ↓rfT_20_7, ↓rfT_20_8, ↓rfT_20_11, ↓rfT_20_13, ↓rfT_29_2, ↓rfT_29_3, ↓rfT_29_4, ↓rfT_29_5, ↓rfT_29_7, ↓rfT_29_8, ↓rfT_29_11, ↓rfT_29_13, ↓rfT_40_0, ↓rfT_40_1, ↓rfT_40_2, ↓rfT_40_5, ↓rfT_40_7, ↓rfT_40_8, ↓rfT_48_2, ↓rfT_48_3, ↓rfT_48_4, ↓rfT_48_5, ↓rfT_48_6, ↓rfT_54_2, ↓rfT_54_3, ↓rfT_54_4, ↓rfT_54_5, ↓rfT_54_6, ↓rfT_60_0, ↓rfT_60_5, ↓rfT_60_8, ↓rfT_64_0, ↓rfT_64_1, ↓rfT_64_2, ↓rfT_64_5, ↓rfT_69_0, ↓rfT_69_1, ↓rfT_69_2, ↓rfT_69_3, ↓rfT_74_3, ↓rfT_74_4, ↓rfT_74_5, ↓rfT_9_0, ↓rfT_9_1, ↓rfT_9_2, ↓rfT_9_3, ↓rfT_9_5, ↓rfT_9_8, ↓rfT_9_11, ↓rfT_9_12, ↓rfT_9_13, ↓rfT_9_14, ↓rfT_9_15, ↓rfT_9_16, ↓rfT_9_17, ↓rfT_79_2, ↓rfT_79_3, ↓rfT_79_4, ↓rfT_79_5, ↓rfT_79_7, ↓rfT_79_16, ↓rfT_79_18, ↓rfT_79_19, ↓rfT_79_21, ↓rfT_79_22, ↓rfT_79_25, ↓rfT_79_26, ↓rfT_79_28, ↓rfT_79_29, ↓rfT_79_33, ↓rfT_79_35, ↓rfT_79_36, ↓rfT_79_37, ↓rfT_79_38, ↓rfT_79_39, ↓rfT_79_40, ↓rfT_79_44, ↓rfT_79_45, ↓rfT_79_49, ↓rfT_79_50, ↓rfT_79_51, hS_sI, hS_sJ, hS_sR, hS_wI, hS_wJ, hS_wR, hN_sI, hN_sJ, hN_sR, hN_wI, hN_wJ, hN_wR, hJ_sI, hJ_sR, hI_sJ, hI_sR, hR_sI, hR_sJ, hJ_wI, hJ_wR, hI_wJ, hI_wR, hR_wI, hR_wJ, Classical.not_not, not_true_eq_false, false_implies, Option.isSome_some, Option.getD_some, false_and, and_false, rok_i, rok_z, and_true, true_and, Nat.reduceLeDiff, Nat.reduceAdd, ne_eq, reduceCtorEq, not_false_eq_true, beq_self_eq_true, Nat.reduceLT, Nat.reduceEqDiff, List.cons.injEq, Nat.le_refl, ↓reduceIte, implies_true, forall_const, nL_of, or_false, true_or, or_true, false_or, nL_add, nL_addr, nL_mul, nL_mulr, nL_sub, nL_subr, nL_le, nL_ler, nL_lt, nL_ltr, nL_eq, nL_eqr, nL_ll, nL_clamp, nL_in, nL_m1, nL_m1r, nI_add, pk_mul, pk_sub, nI_clamp, vp_in_nI, nI_leI, nI_ltI, nI_eq, Nat.not_lt_zero, Nat.zero_le, WF.s0 w, WF.s1 w, WF.s2 w, WF.s3 w, WF.s4 w, WF.s5 w, WF.s6 w, WF.s7 w, WF.s9 w, WF.s10 w, WF.s11 w, WF.s12 w, WF.s13 w, WF.s14 w, WF.s15 w, WF.s16 w, WF.s17 w, WF.s18 w, WF.s19 w, WF.s20 w, WF.s21 w, WF.s22 w, WF.s23 w, WF.s24 w, WF.s25 w, WF.s26 w, WF.s27 w, WF.s28 w, WF.s29 w, WF.s30 w, WF.s31 w, WF.s32 w, WF.s33 w, WF.s34 w, WF.s35 w, WF.s36 w, WF.s37 w, WF.s38 w, WF.s39 w, WF.s40 w, WF.s41 w, WF.s42 w, WF.s43 w, WF.s44 w, WF.s45 w, WF.s46 w, WF.s47 w, WF.s48 w, WF.s49 w, WF.s50 w, WF.s51 w, WF.s52 w, WF.s53 w, WF.s54 w, WF.s55 w, WF.s56 w, WF.s57 w, WF.s58 w, WF.s59 w, WF.s60 w, WF.s61 w, WF.s62 w, WF.s63 w, WF.s64 w, WF.s65 w, WF.s66 w, WF.s67 w, WF.s68 w, WF.s69 w, WF.s70 w, WF.s71 w, WF.s72 w, WF.s73 w, WF.s74 w, WF.s75 w, WF.s76 w, WF.s77 w, WF.s78 w, WF.s79 w, WF.s80 w, WF.s81 w, WF.s82 w, WF.s83 w, WF.s84 w, WF.s85 w, WF.s86 w, WF.s87 w, WF.s88 w, WF.s89 w, WF.s90 w, WF.s91 w, WF.s92 w, WF.s93 w, WF.s94 w, WF.s95 w, WF.s96 w, WF.s97 w, WF.s98 w, WF.s99 w, WF.s100 w, WF.s101 w, WF.s102 w, WF.s103 w, WF.s104 w, WF.s105 w, WF.r10_2 w, WF.r10_3 w, WF.r10_4 w, WF.r10_5 w, WF.r10_7 w, WF.r10_8 w, WF.r10_11 w, WF.r10_13 w, WF.r20_2 w, WF.r20_3 w, WF.r20_4 w, WF.r20_5 w, WF.r20_7 w, WF.r20_8 w, WF.r20_11 w, WF.r20_13 w, WF.r29_2 w, WF.r29_3 w, WF.r29_4 w, WF.r29_5 w, WF.r29_7 w, WF.r29_8 w, WF.r29_11 w, WF.r29_13 w, WF.r40_0 w, WF.r40_1 w, WF.r40_2 w, WF.r40_5 w, WF.r40_7 w, WF.r40_8 w, WF.r48_2 w, WF.r48_3 w, WF.r48_4 w, WF.r48_5 w, WF.r48_6 w, WF.r54_2 w, WF.r54_3 w, WF.r54_4 w, WF.r54_5 w, WF.r54_6 w, WF.r60_0 w, WF.r60_5 w, WF.r60_8 w, WF.r64_0 w, WF.r64_1 w, WF.r64_2 w, WF.r64_5 w, WF.r69_0 w, WF.r69_1 w, WF.r69_2 w, WF.r69_3 w, WF.r74_3 w, WF.r74_4 w, WF.r74_5 w, WF.r9_0 w, WF.r9_1 w, WF.r9_2 w, WF.r9_3 w, WF.r9_5 w, WF.r9_8 w, WF.r9_11 w, WF.r9_12 w, WF.r9_13 w, WF.r9_14 w, WF.r9_15 w, WF.r9_16 w, WF.r9_17 w, WF.r79_2 w, WF.r79_3 w, WF.r79_4 w, WF.r79_5 w, WF.r79_7 w, WF.r79_16 w, WF.r79_18 w, WF.r79_19 w, WF.r79_21 w, WF.r79_22 w, WF.r79_25 w, WF.r79_26 w, WF.r79_28 w, WF.r79_29 w, WF.r79_33 w, WF.r79_35 w, WF.r79_36 w, WF.r79_37 w, WF.r79_38 w, WF.r79_39 w, WF.r79_40 w, WF.r79_44 w, WF.r79_45 w, WF.r79_49 w, WF.r79_50 w, WF.r79_51 w, bX9_may_0, e1, e2, bI_eq0, bI_ne0, zb_0, zb_1]
  refine ⟨fun q => ?_, fun q => ⟨fun q2 => ?_, fun q2 => ⟨fun q3 => ?_, fun q3 => ?_⟩⟩⟩
  · rw [bI_f] at hQ
    · exact hQ
    · intro x; unfold mayB at x; apply q; simp at x; exact x.1.2
  · rw [bI_t] at hQ
    · exact hQ
    · unfold mayB; simp [hp, q, q2]
  · rw [bI_f] at hQ
    · exact hQ
    · intro x; unfold mayB at x; simp [q2, q3] at x
  · rw [bI_t] at hQ
    · exact hQ
    · unfold mayB; simp [hp, q, q3]
theorem m_canDouble {p q : Nat} (w : WF h) (hp : p < 8) (hq : q < 8) (hQ : Q (some (.int (bI (dblB (hI h 81) p q = true)))) h) : GoM l E YX9_canDouble (d + 1) 0 0 [.ref 79, .int (nI p), .int (nI q)] h Q := by
  refine eX9_canDouble (gX9_canDouble_0 ?_)
  simp (disch := omega) only [↓lgetK, ↓lputK, ↓clrV, ↓lclrK, ↓ls1K, ↓ls2K, ↓pop1i, ↓pop1l, ↓pop1r, ↓pop2i, ↓pop2l, ↓popil, ↓popir, ↓poplr, ↓popiir, ↓popliir, ↓catS, ↓popNK, ↓k_push, ↓gvI, ↓gvL, ↓gvA, ↓k_iload, ↓k_lload, ↓k_aload, ↓k_istore, ↓k_lstore, ↓k_astore, ↓k_iinc, ↓k_iadd, ↓k_isub, ↓k_imul, ↓k_iand, ↓k_ior, ↓k_ixor, ↓k_ishl, ↓k_ishr, ↓k_iushr, ↓k_irem, ↓k_ladd, ↓k_lsub, ↓k_lmul, ↓k_land, ↓k_lor, ↓k_lxor, ↓k_ldiv, ↓k_lrem, ↓k_lcmp, ↓k_lshl, ↓k_lshr, ↓k_lushr, ↓k_ineg, ↓k_i2l, ↓k_l2i, ↓k_i2c, ↓k_dup, ↓k_pop, ↓k_dup2, ↓k_dup_x1, ↓k_if_eq, ↓k_icmp_eq, ↓k_if_ne, ↓k_icmp_ne, ↓k_if_lt, ↓k_icmp_lt, ↓k_if_ge, ↓k_icmp_ge, ↓k_if_gt, ↓k_icmp_gt, ↓k_if_le, ↓k_icmp_le, ↓k_ifnonnull, ↓swK, ↓k_sw, ↓k_iret, ↓k_lret, ↓k_vret, ↓k_aret, ↓k_getI, ↓k_getJ, ↓k_getR, ↓k_putI, ↓k_putZ, ↓k_putJ, ↓k_putR, ↓kk_iaload, ↓kk_laload, ↓kk_zaload, ↓k_aaload, ↓k_iastore, ↓k_lastore, ↓k_zastore, ↓k_aastore, ↓k_alen, ↓k_new, ↓k_newarr, ↓k_anew, ↓kk_callV, ↓kk_callI, ↓kk_callS, ↓k_objInit, ↓k_copyI, ↓k_copyJ, ↓k_gets, ↓k_getsC, ↓k_getsF, ↓k_ldcS, ↓k_coder, ↓k_value, ↓k_baload, ↓k_blen, ↓k_callT, ↓k_clone, ↓k_castI, ↓k_mmax, ↓k_mmin, ↓k_mminl, ↓kont_s, ↓kont_n, ↓pR_s, isC1, Value.category, ↓rfT_10_2, ↓rfT_10_3, ↓rfT_10_4, ↓rfT_10_5, ↓rfT_10_7, ↓rfT_10_8, ↓rfT_10_11, ↓rfT_10_13, ↓rfT_20_2, ↓rfT_20_3, ↓rfT_20_4, ↓rfT_20_5, ↓rfT_20_7, ↓rfT_20_8, ↓rfT_20_11, ↓rfT_20_13, ↓rfT_29_2, ↓rfT_29_3, ↓rfT_29_4, ↓rfT_29_5, ↓rfT_29_7, ↓rfT_29_8, ↓rfT_29_11, ↓rfT_29_13, ↓rfT_40_0, ↓rfT_40_1, ↓rfT_40_2, ↓rfT_40_5, ↓rfT_40_7, ↓rfT_40_8, ↓rfT_48_2, ↓rfT_48_3, ↓rfT_48_4, ↓rfT_48_5, ↓rfT_48_6, ↓rfT_54_2, ↓rfT_54_3, ↓rfT_54_4, ↓rfT_54_5, ↓rfT_54_6, ↓rfT_60_0, ↓rfT_60_5, ↓rfT_60_8, ↓rfT_64_0, ↓rfT_64_1, ↓rfT_64_2, ↓rfT_64_5, ↓rfT_69_0, ↓rfT_69_1, ↓rfT_69_2, ↓rfT_69_3, ↓rfT_74_3, ↓rfT_74_4, ↓rfT_74_5, ↓rfT_9_0, ↓rfT_9_1, ↓rfT_9_2, ↓rfT_9_3, ↓rfT_9_5, ↓rfT_9_8, ↓rfT_9_11, ↓rfT_9_12, ↓rfT_9_13, ↓rfT_9_14, ↓rfT_9_15, ↓rfT_9_16, ↓rfT_9_17, ↓rfT_79_2, ↓rfT_79_3, ↓rfT_79_4, ↓rfT_79_5, ↓rfT_79_7, ↓rfT_79_16, ↓rfT_79_18, ↓rfT_79_19, ↓rfT_79_21, ↓rfT_79_22, ↓rfT_79_25, ↓rfT_79_26, ↓rfT_79_28, ↓rfT_79_29, ↓rfT_79_33, ↓rfT_79_35, ↓rfT_79_36, ↓rfT_79_37, ↓rfT_79_38, ↓rfT_79_39, ↓rfT_79_40, ↓rfT_79_44, ↓rfT_79_45, ↓rfT_79_49, ↓rfT_79_50, ↓rfT_79_51, hS_sI, hS_sJ, hS_sR, hS_wI, hS_wJ, hS_wR, hN_sI, hN_sJ, hN_sR, hN_wI, hN_wJ, hN_wR, hJ_sI, hJ_sR, hI_sJ, hI_sR, hR_sI, hR_sJ, hJ_wI, hJ_wR, hI_wJ, hI_wR, hR_wI, hR_wJ, Classical.not_not, not_true_eq_false, false_implies, Option.isSome_some, Option.getD_some, false_and, and_false, rok_i, rok_z, and_true, true_and, Nat.reduceLeDiff, Nat.reduceAdd, ne_eq, reduceCtorEq, not_false_eq_true, beq_self_eq_true, Nat.reduceLT, Nat.reduceEqDiff, List.cons.injEq, Nat.le_refl, ↓reduceIte, implies_true, forall_const, nL_of, or_false, true_or, or_true, false_or, nL_add, nL_addr, nL_mul, nL_mulr, nL_sub, nL_subr, nL_le, nL_ler, nL_lt, nL_ltr, nL_eq, nL_eqr, nL_ll, nL_clamp, nL_in, nL_m1, nL_m1r, nI_add, pk_mul, pk_sub, nI_clamp, vp_in_nI, nI_leI, nI_ltI, nI_eq, Nat.not_lt_zero, Nat.zero_le, WF.s0 w, WF.s1 w, WF.s2 w, WF.s3 w, WF.s4 w, WF.s5 w, WF.s6 w, WF.s7 w, WF.s9 w, WF.s10 w, WF.s11 w, WF.s12 w, WF.s13 w, WF.s14 w, WF.s15 w, WF.s16 w, WF.s17 w, WF.s18 w, WF.s19 w, WF.s20 w, WF.s21 w, WF.s22 w, WF.s23 w, WF.s24 w, WF.s25 w, WF.s26 w, WF.s27 w, WF.s28 w, WF.s29 w, WF.s30 w, WF.s31 w, WF.s32 w, WF.s33 w, WF.s34 w, WF.s35 w, WF.s36 w, WF.s37 w, WF.s38 w, WF.s39 w, WF.s40 w, WF.s41 w, WF.s42 w, WF.s43 w, WF.s44 w, WF.s45 w, WF.s46 w, WF.s47 w, WF.s48 w, WF.s49 w, WF.s50 w, WF.s51 w, WF.s52 w, WF.s53 w, WF.s54 w, WF.s55 w, WF.s56 w, WF.s57 w, WF.s58 w, WF.s59 w, WF.s60 w, WF.s61 w, WF.s62 w, WF.s63 w, WF.s64 w, WF.s65 w, WF.s66 w, WF.s67 w, WF.s68 w, WF.s69 w, WF.s70 w, WF.s71 w, WF.s72 w, WF.s73 w, WF.s74 w, WF.s75 w, WF.s76 w, WF.s77 w, WF.s78 w, WF.s79 w, WF.s80 w, WF.s81 w, WF.s82 w, WF.s83 w, WF.s84 w, WF.s85 w, WF.s86 w, WF.s87 w, WF.s88 w, WF.s89 w, WF.s90 w, WF.s91 w, WF.s92 w, WF.s93 w, WF.s94 w, WF.s95 w, WF.s96 w, WF.s97 w, WF.s98 w, WF.s99 w, WF.s100 w, WF.s101 w, WF.s102 w, WF.s103 w, WF.s104 w, WF.s105 w, WF.r10_2 w, WF.r10_3 w, WF.r10_4 w, WF.r10_5 w, WF.r10_7 w, WF.r10_8 w, WF.r10_11 w, WF.r10_13 w, WF.r20_2 w, WF.r20_3 w, WF.r20_4 w, WF.r20_5 w, WF.r20_7 w, WF.r20_8 w, WF.r20_11 w, WF.r20_13 w, WF.r29_2 w, WF.r29_3 w, WF.r29_4 w, WF.r29_5 w, WF.r29_7 w, WF.r29_8 w, WF.r29_11 w, WF.r29_13 w, WF.r40_0 w, WF.r40_1 w, WF.r40_2 w, WF.r40_5 w, WF.r40_7 w, WF.r40_8 w, WF.r48_2 w, WF.r48_3 w, WF.r48_4 w, WF.r48_5 w, WF.r48_6 w, WF.r54_2 w, WF.r54_3 w, WF.r54_4 w, WF.r54_5 w, WF.r54_6 w, WF.r60_0 w, WF.r60_5 w, WF.r60_8 w, WF.r64_0 w, WF.r64_1 w, WF.r64_2 w, WF.r64_5 w, WF.r69_0 w, WF.r69_1 w, WF.r69_2 w, WF.r69_3 w, WF.r74_3 w, WF.r74_4 w, WF.r74_5 w, WF.r9_0 w, WF.r9_1 w, WF.r9_2 w, WF.r9_3 w, WF.r9_5 w, WF.r9_8 w, WF.r9_11 w, WF.r9_12 w, WF.r9_13 w, WF.r9_14 w, WF.r9_15 w, WF.r9_16 w, WF.r9_17 w, WF.r79_2 w, WF.r79_3 w, WF.r79_4 w, WF.r79_5 w, WF.r79_7 w, WF.r79_16 w, WF.r79_18 w, WF.r79_19 w, WF.r79_21 w, WF.r79_22 w, WF.r79_25 w, WF.r79_26 w, WF.r79_28 w, WF.r79_29 w, WF.r79_33 w, WF.r79_35 w, WF.r79_36 w, WF.r79_37 w, WF.r79_38 w, WF.r79_39 w, WF.r79_40 w, WF.r79_44 w, WF.r79_45 w, WF.r79_49 w, WF.r79_50 w, WF.r79_51 w, bX9_canDouble_0, zb_0, zb_1]
  refine ⟨fun c => ?_, fun c => ⟨fun c2 => ?_, fun c2 => ?_⟩⟩
  · rw [bI_f] at hQ
    · exact hQ
    · intro x; exact c (of_decide_eq_true x).1
  · rw [bI_f] at hQ
    · exact hQ
    · intro x; exact c2 (of_decide_eq_true x).2
  · rw [bI_t] at hQ
    · exact hQ
    · exact decide_eq_true ⟨c, c2⟩
end FM
