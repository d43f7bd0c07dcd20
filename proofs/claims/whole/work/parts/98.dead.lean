/-! who can't take it -/
theorem pc_pos {c : Nat} (hc : c < 256) (h : c ≠ 0) : 1 ≤ pcN c := by
  have q := List.all_eq_true.mp mv_pc c (List.mem_range.mpr hc)
  simp only [Bool.and_eq_true, decide_eq_true_eq] at q
  rcases Nat.eq_zero_or_pos (pcN c) with z | z
  · exact absurd (q.1.1 z) h
  · exact z
section MD
variable {f : Nat → Int32} {Tl : Nat → LawT} {na np ill : Nat}
theorem mu_dn {X c b : Nat} (hX : X < 256) (hc : c < 256) (dis : X &&& c = 0) (h : mu0 f np ill (cnA f Tl) b X = 0) : mu0 f np ill (cnA f Tl) b (X ||| c) = 0 := by
  by_cases c0 : c = 0
  · rw [c0, Nat.or_zero]; exact h
  have c1 := pc_pos hc c0
  unfold mu0 at h ⊢
  have sge : ∀ r, sgM np ill (cnA f Tl) fxm b r = (!ill.testBit b && (decide (r < np) && cnA f Tl b r)) := fun r => by rw [sgM, may_same]
  have pre : ∀ p q, prM f np ill (cnA f Tl) fxm b p q = (!ill.testBit b && ((decide (p < np) && cnA f Tl b p) && (decide (q < np) && cnA f Tl b q) && dblB f p q)) := fun p q => by rw [prM, may_same, may_same]
  rcases mv_c X with e | ⟨j, hj, e⟩ | ⟨p, q, hp, hq, e⟩ | ⟨n0, n1, n2⟩
  · rw [e, mv_0] at h; exact absurd h (by decide)
  · subst e
    rw [mv_1 _ _ _ hj, sge] at h
    have h : ¬ (!ill.testBit b && (decide (j < np) && cnA f Tl b j)) = true := fun z => by rw [if_pos z] at h; exact absurd h (by decide)
    rcases mv_c c with e | ⟨r, hr, e⟩ | ⟨p, q, hp, hq, e⟩ | ⟨n0, n1, n2⟩
    · exact absurd e c0
    · have rj : r ≠ j := fun z => by
        subst z; rw [e, Nat.and_self] at dis; exact absurd dis (Nat.ne_of_gt (Nat.two_pow_pos r))
      rcases Nat.lt_or_gt_of_ne rj with z | z
      · rw [e, mv_2 _ _ _ hj z, pre, if_neg]
        intro y
        simp only [Bool.and_eq_true] at y
        exact h (by simp only [Bool.and_eq_true]; exact ⟨y.1, y.2.1.1⟩)
      · rw [e, Nat.or_comm, mv_2 _ _ _ hr z, pre, if_neg]
        intro y
        simp only [Bool.and_eq_true] at y
        exact h (by simp only [Bool.and_eq_true]; exact ⟨y.1, y.2.1.2⟩)
    · exact mv_3 _ _ _ (by rw [pc_dis dis, pc_1 hj, e, pc_2 hp hq]; omega)
    · exact mv_3 _ _ _ (by have := pc_ge hc n0 n1 n2; rw [pc_dis dis]; omega)
  · exact mv_3 _ _ _ (by rw [pc_dis dis, e, pc_2 hp hq]; omega)
  · exact mv_3 _ _ _ (by have := pc_ge hX n0 n1 n2; rw [pc_dis dis]; omega)
/-- one part more -/
theorem mu_add {H b p : Nat} (hnp : np ≤ 8) (hp : p < np) (hH : H < 256) (hv : 0 < mu0 f np ill (cnA f Tl) b H) (hb : H.testBit p = false) : mu0 f np ill (cnA f Tl) b (H ||| 2 ^ p) = if (!ill.testBit b && (cbA f Tl np b &&& rmN (beN f np) H).testBit p) = true then 1 else 0 := by
  have d : H &&& 2 ^ p = 0 := Nat.eq_of_testBit_eq fun r => by
    rw [Nat.testBit_and, Nat.testBit_two_pow, Nat.zero_testBit]
    by_cases e : p = r
    · subst e; rw [hb]; rfl
    · simp [e]
  rw [mu_held f Tl ill (W := 2 ^ p) (fun _ => H) rfl hv hH (Nat.lt_of_lt_of_le (Nat.pow_lt_pow_right (by decide) (by omega : p < 8)) (by decide)) (fun r h => h) d hnp, mv_1 _ _ _ (by omega), sgN, ableN, Nat.testBit_and, Nat.testBit_and, Nat.testBit_and]
  simp
theorem held_up {p a : Nat} {g : Nat → Nat} (hp : p < 8) (b : Nat) : heldM (2 ^ (p + 1) - 1) (upN g p a) b = if b = a then heldM (2 ^ p - 1) g b ||| 2 ^ p else heldM (2 ^ p - 1) g b := by
  have l1 : 2 ^ p - 1 < 256 := by
    have := Nat.pow_le_pow_right (show 0 < 2 by decide) (show p ≤ 8 by omega)
    have := Nat.two_pow_pos p
    omega
  refine Nat.eq_of_testBit_eq fun r => ?_
  rw [held_tb (P_lt hp), lowP]
  have e : (heldM (2 ^ p - 1) g b).testBit r = (decide (r < p) && (g r == b)) := by rw [held_tb l1, lowP]
  by_cases ba : b = a
  · rw [if_pos ba, Nat.testBit_or, e, Nat.testBit_two_pow]
    unfold upN
    by_cases rp : r = p
    · subst rp; simp [ba]
    · rw [if_neg rp]
      by_cases z : r < p
      · simp [z, show r < p + 1 by omega, show ¬ p = r by omega]
      · simp [z, show ¬ r < p + 1 by omega, show ¬ p = r by omega]
  · rw [if_neg ba, e]
    unfold upN
    by_cases rp : r = p
    · subst rp; simp; exact fun z => ba z.symm
    · rw [if_neg rp]
      by_cases z : r < p
      · simp [z, show r < p + 1 by omega]
      · simp [z, show ¬ r < p + 1 by omega]
theorem held_p {p : Nat} {g : Nat → Nat} (hp : p < 8) (b : Nat) : (heldM (2 ^ p - 1) g b).testBit p = false := by
  have l1 : 2 ^ p - 1 < 256 := by
    have := Nat.pow_le_pow_right (show 0 < 2 by decide) (show p ≤ 8 by omega)
    have := Nat.two_pow_pos p
    omega
  rw [held_tb l1, lowP]; simp
theorem NF_dead {co : Nat → Nat → Nat} {g : Nat → Nat} {p a its : Nat} (hnp : np ≤ 8) (hp : p < np) (hg : ∀ q, q < p → g q < na) (ha : a < na) (h : mu0 f np ill (cnA f Tl) a (heldM (2 ^ p - 1) g a ||| 2 ^ p) = 0) : NF (mu0 f np ill (cnA f Tl)) co na (2 ^ np - 1) its p g a = 0 := by
  rw [NF_sh hnp hp hg ha]
  have z : ∀ c, c < 256 → muH (2 ^ (p + 1) - 1) (upN g p a) (mu0 f np ill (cnA f Tl)) a c = 0 := by
    intro c hc
    rw [muH]
    split
    · rename_i d0
      refine mu_dn (held_lt _ _ _) hc ?_ (by rw [held_up (by omega), if_pos rfl]; exact h)
      refine Nat.eq_of_testBit_eq fun r => ?_
      have e1 := congrArg (fun x => x.testBit r) d0
      simp only [Nat.testBit_and, Nat.zero_testBit] at e1
      rw [Nat.testBit_and, Nat.zero_testBit, held_tb (P_lt (by omega))]
      cases h1 : c.testBit r <;> cases h2 : (2 ^ (p + 1) - 1).testBit r <;> simp_all
    · rfl
  unfold sh
  split
  · exact Cm_dead z na _ _ ha
  · rfl
end MD
