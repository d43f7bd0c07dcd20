/-! what one can still take who holds H -/
theorem pc_dis {H c : Nat} (h : H &&& c = 0) : pcN (H ||| c) = pcN H + pcN c := by
  unfold pcN
  rw [← sumN_add]
  refine sumN_cong fun p _ => ?_
  have e : (H &&& c).testBit p = false := by rw [h]; exact Nat.zero_testBit p
  rw [Nat.testBit_and] at e
  rw [Nat.testBit_or]
  cases h1 : H.testBit p <;> cases h2 : c.testBit p <;> simp_all
theorem pc_ge {c : Nat} (hc : c < 256) (h0 : c ≠ 0) (h1 : ∀ r, r < 8 → c ≠ 2 ^ r) (h2 : ∀ p q, p < 8 → q < p → c ≠ 2 ^ p ||| 2 ^ q) : 3 ≤ pcN c := by
  have h := List.all_eq_true.mp mv_pc c (List.mem_range.mpr hc)
  simp only [Bool.and_eq_true, decide_eq_true_eq] at h
  apply Classical.byContradiction
  intro n
  have : pcN c = 0 ∨ pcN c = 1 ∨ pcN c = 2 := by omega
  rcases this with e | e | e
  · exact h0 (h.1.1 e)
  · have := h.1.2 e
    rw [List.any_eq_true] at this
    obtain ⟨r, hr, e⟩ := this
    exact h1 r (List.mem_range.mp hr) (by simpa using e)
  · have := h.2 e
    rw [List.any_eq_true] at this
    obtain ⟨p, hp, e⟩ := this
    rw [List.any_eq_true] at e
    obtain ⟨q, hq, e⟩ := e
    exact h2 p q (List.mem_range.mp hp) (List.mem_range.mp hq) (by simpa using e)
theorem dbl_sym (f : Nat → Int32) (p q : Nat) : dblB f p q = dblB f q p := by
  unfold dblB; rw [Int32.and_comm]
theorem rm_1 (be : Nat → Nat) {j : Nat} (hj : j < 8) : rmN be (2 ^ j) = be j := by
  unfold rmN
  rw [if_neg (Nat.ne_of_gt (Nat.two_pow_pos j)), tz_p2 hj, if_pos rfl]
theorem rm_2 (be : Nat → Nat) {p q : Nat} (hp : p < 8) (hq : q < p) : rmN be (2 ^ p ||| 2 ^ q) = 0 := by
  obtain ⟨f1, f2, f3⟩ := p2_fact hp hq
  have l : 2 ^ p ||| 2 ^ q < 2 ^ 8 := Nat.or_lt_two_pow (Nat.pow_lt_pow_right (by decide) hp) (Nat.pow_lt_pow_right (by decide) (by omega))
  unfold rmN
  rw [if_neg f1, if_neg]
  intro e
  rcases Nat.lt_or_ge (tzN (2 ^ p ||| 2 ^ q)) 8 with z | z
  · exact f2 _ z e
  · have := Nat.pow_le_pow_right (show 0 < 2 by decide) z
    omega
section MH
variable (f : Nat → Int32) (Tl : Nat → LawT) {np : Nat} (hnp : np ≤ 8) (ill : Nat)
theorem mu_held {W H b c : Nat} (hd : Nat → Nat) (hH : hd b = H) (hv : 0 < mu0 f np ill (cnA f Tl) b H) (h8 : H < 256) (hc : c < 256) (hcW : ∀ r, c.testBit r = true → W.testBit r = true) (dis : H &&& c = 0) (hnp : np ≤ 8) : mu0 f np ill (cnA f Tl) b (H ||| c) = muOf (sgN ill (cbA f Tl np) (beN f np) hd W) (prN ill (cbA f Tl np) (beN f np) hd W) b c := by
  unfold mu0 at hv ⊢
  have cbt : ∀ r, (cbA f Tl np b).testBit r = (decide (r < np) && cnA f Tl b r) := fun r => by
    show (bitsB (canB f Tl (KN f) (f 7) b) np).testBit r = _
    rw [bitsB_tb]
  have bet : ∀ j r, r ≠ j → (beN f np j).testBit r = (decide (r < np) && dblB f r j) := fun j r h => by
    rw [beN, bitsB_tb]
    unfold besB dblB
    simp [h]
  have sge : ∀ r, sgM np ill (cnA f Tl) fxm b r = (!ill.testBit b && (decide (r < np) && cnA f Tl b r)) := fun r => by rw [sgM, may_same]
  have pre : ∀ p q, prM f np ill (cnA f Tl) fxm b p q = (!ill.testBit b && ((decide (p < np) && cnA f Tl b p) && (decide (q < np) && cnA f Tl b q) && dblB f p q)) := fun p q => by rw [prM, may_same, may_same]
  have sgn : ∀ r, sgN ill (cbA f Tl np) (beN f np) hd W b r = (!ill.testBit b && ((decide (r < np) && cnA f Tl b r) && W.testBit r && (rmN (beN f np) H).testBit r)) := fun r => by
    rw [sgN, ableN, hH, Nat.testBit_and, Nat.testBit_and, cbt]
  have prn : ∀ p q, H ≠ 0 → prN ill (cbA f Tl np) (beN f np) hd W b p q = false := fun p q h => by
    rw [prN, hH]
    have : (H == 0) = false := by simpa using h
    rw [this]; simp
  rcases mv_c H with e | ⟨j, hj, e⟩ | ⟨p, q, hp, hq, e⟩ | ⟨n0, n1, n2⟩
  · subst e
    rw [Nat.zero_or]
    rcases mv_c c with e | ⟨r, hr, e⟩ | ⟨p, q, hp, hq, e⟩ | ⟨n0, n1, n2⟩
    · rw [e, mv_0, mv_0]
    · have := hcW r (by rw [e]; simp)
      rw [e, mv_1 _ _ _ hr, mv_1 _ _ _ hr, sge, sgn, this]
      rw [rmN, if_pos rfl, c255]
      simp [hr]
    · have w1 := hcW p (by rw [e]; simp)
      have w2 := hcW q (by rw [e]; simp)
      rw [e, mv_2 _ _ _ hp hq, mv_2 _ _ _ hp hq, pre, prN, ableN, hH, Nat.testBit_and, Nat.testBit_and, cbt, Nat.testBit_and, Nat.testBit_and, cbt, w1, w2, bet q p (by omega)]
      rw [rmN, if_pos rfl, c255, c255]
      have q8 : q < 8 := by omega
      by_cases h : p < np
      · simp [hp, q8, h]
      · simp [h]
    · rw [mv_n _ _ _ n0 n1 n2, mv_n _ _ _ n0 n1 n2]
  · subst e
    have sj : sgM np ill (cnA f Tl) fxm b j = true := by
      rw [mv_1 _ _ _ hj] at hv
      apply Classical.byContradiction
      intro z; rw [if_neg z] at hv; exact absurd hv (by decide)
    have Hn : 2 ^ j ≠ 0 := Nat.ne_of_gt (Nat.two_pow_pos j)
    rw [sge] at sj
    simp only [Bool.and_eq_true, Bool.not_eq_true', decide_eq_true_eq] at sj
    obtain ⟨s1, s2, s3⟩ := sj
    rcases mv_c c with e | ⟨r, hr, e⟩ | ⟨p, q, hp, hq, e⟩ | ⟨n0, n1, n2⟩
    · rw [e, mv_0, Nat.or_zero, mv_1 _ _ _ hj, if_pos (by rw [sge]; simp [s1, s2, s3])]
    · have wr := hcW r (by rw [e]; simp)
      have rj : r ≠ j := fun z => by
        subst z; rw [e, Nat.and_self] at dis; exact Hn dis
      rw [e, mv_1 _ _ _ hr, sgn, rm_1 _ hj, wr, bet j r rj]
      rcases Nat.lt_or_gt_of_ne rj with z | z
      · rw [mv_2 _ _ _ hj z, pre, dbl_sym]
        by_cases h : r < np <;> simp [s1, s2, s3, h]
      · rw [Nat.or_comm, mv_2 _ _ _ hr z, pre]
        by_cases h : r < np <;> simp [s1, s2, s3, h]
    · rw [mv_3 _ _ _ (by rw [pc_dis dis, pc_1 hj, e, pc_2 hp hq]; omega), e, mv_2 _ _ _ hp hq, prn _ _ Hn, if_neg (by decide)]
    · rw [mv_3 _ _ _ (by have := pc_ge hc n0 n1 n2; rw [pc_dis dis, pc_1 hj]; omega), mv_n _ _ _ n0 n1 n2]
  · have hv2 := hv
    rw [e, mv_2 _ _ _ hp hq] at hv2
    have Hn : H ≠ 0 := by rw [e]; exact (p2_fact hp hq).1
    have pj : prM f np ill (cnA f Tl) fxm b p q = true := by
      apply Classical.byContradiction
      intro z; rw [if_neg z] at hv2; exact absurd hv2 (by decide)
    have sg0 : ∀ r, sgN ill (cbA f Tl np) (beN f np) hd W b r = false := fun r => by rw [sgn, e, rm_2 _ hp hq]; simp
    rcases mv_c c with e2 | ⟨r, hr, e2⟩ | ⟨p', q', hp', hq', e2⟩ | ⟨n0, n1, n2⟩
    · rw [e2, mv_0, Nat.or_zero, e, mv_2 _ _ _ hp hq, if_pos pj]
    · rw [mv_3 _ _ _ (by rw [pc_dis dis, e2, pc_1 hr, e, pc_2 hp hq]; omega), e2, mv_1 _ _ _ hr, sg0, if_neg (by decide)]
    · rw [mv_3 _ _ _ (by rw [pc_dis dis, e2, pc_2 hp' hq', e, pc_2 hp hq]; omega), e2, mv_2 _ _ _ hp' hq', prn _ _ Hn, if_neg (by decide)]
    · rw [mv_3 _ _ _ (by have := pc_ge hc n0 n1 n2; rw [pc_dis dis]; omega), mv_n _ _ _ n0 n1 n2]
  · rw [mv_n _ _ _ n0 n1 n2] at hv
    exact absurd hv (by decide)
end MH
