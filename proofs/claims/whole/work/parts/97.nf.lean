/-! how many ways follow, told as the class counts them -/
theorem sub_x {S S0 c : Nat} (hS : S &&& S0 = S) (hc : c &&& S = c) : (S ^^^ c) &&& S0 = S ^^^ c ∧ c &&& S0 = c := by
  refine ⟨Nat.eq_of_testBit_eq fun i => ?_, Nat.eq_of_testBit_eq fun i => ?_⟩
  · have e1 := congrArg (fun x => x.testBit i) hS
    have e2 := congrArg (fun x => x.testBit i) hc
    simp only [Nat.testBit_and] at e1 e2
    rw [Nat.testBit_and, Nat.testBit_xor]
    cases h1 : S.testBit i <;> cases h2 : c.testBit i <;> cases h3 : S0.testBit i <;> simp_all
  · have e1 := congrArg (fun x => x.testBit i) hS
    have e2 := congrArg (fun x => x.testBit i) hc
    simp only [Nat.testBit_and] at e1 e2
    rw [Nat.testBit_and]
    cases h1 : S.testBit i <;> cases h2 : c.testBit i <;> cases h3 : S0.testBit i <;> simp_all
theorem Cm_congS {mu mu' w : Nat → Nat → Nat} {S0 : Nat} : ∀ (a : Nat), (∀ b, b < a → ∀ c, c < 256 → c &&& S0 = c → mu b c = mu' b c) → ∀ (S k : Nat), S &&& S0 = S → Cm mu w a S k = Cm mu' w a S k
  | 0, _, S, k, _ => rfl
  | a + 1, h, S, k, hS => by
    rw [Cm, Cm]
    refine sumN_cong fun c hc => ?_
    by_cases e : c &&& S = c
    · obtain ⟨x1, x2⟩ := sub_x hS e
      rw [if_pos e, if_pos e, h a (by omega) c hc x2]
      congr 1
      unfold sh
      split
      · exact Cm_congS a (fun b hb c hc z => h b (by omega) c hc z) _ _ x1
      · rfl
    · rw [if_neg e, if_neg e]
theorem Cm_dead {mu w : Nat → Nat → Nat} {b : Nat} (h : ∀ c, c < 256 → mu b c = 0) : ∀ (a S k : Nat), b < a → Cm mu w a S k = 0
  | 0, _, _, hb => absurd hb (Nat.not_lt_zero b)
  | a + 1, S, k, hb => by
    rw [Cm]
    refine sumN_0 fun c hc => ?_
    split
    · by_cases e : b = a
      · subst e; rw [h c hc, Nat.zero_mul]
      · unfold sh
        split
        · rw [Cm_dead h a _ _ (by omega), Nat.mul_zero]
        · rw [Nat.mul_zero]
    · rfl
def spN (co : Nat → Nat → Nat) (g : Nat → Nat) (p : Nat) : Nat := sumN p (fun q => co (g q) q)
theorem HW_sp {co : Nat → Nat → Nat} {g : Nat → Nat} {na p a : Nat} (hp : p < 8) (hg : ∀ q, q < p → g q < na) (ha : a < na) : HW (2 ^ (p + 1) - 1) (upN g p a) co na = spN co g p + co a p := by
  unfold HW spN
  rw [sumN_ext (n := p + 1) (m := 8) (by omega) (fun i h1 h2 => if_neg (fun z => by have := z.1; rw [lowP] at this; simp at this; omega))]
  rw [sumN, if_pos ⟨by rw [lowP]; simp, by unfold upN; rw [if_pos rfl]; exact ha⟩]
  unfold upN
  rw [if_pos rfl]
  congr 1
  refine sumN_cong fun q hq => ?_
  rw [if_neg (show ¬ q = p by omega), if_pos ⟨by rw [lowP]; simp; omega, hg q hq⟩]
theorem P_lt {p : Nat} (hp : p < 8) : 2 ^ (p + 1) - 1 < 256 := by
  have := Nat.pow_le_pow_right (show 0 < 2 by decide) (show p + 1 ≤ 8 by omega)
  have := Nat.two_pow_pos (p + 1)
  omega
theorem NF_sh {mu co : Nat → Nat → Nat} {g : Nat → Nat} {na np p a its : Nat} (hnp : np ≤ 8) (hp : p < np) (hg : ∀ q, q < p → g q < na) (ha : a < na) : NF mu co na (2 ^ np - 1) its p g a = sh (Cm (muH (2 ^ (p + 1) - 1) (upN g p a) mu) (wm co) na ((2 ^ np - 1) &&& (255 ^^^ (2 ^ (p + 1) - 1)))) (spN co g p + co a p) its := by
  have := p2_le hnp
  have := Nat.two_pow_pos np
  unfold NF
  rw [CmF_held (P_lt (by omega)) na _ its (by omega) (fun q hq hP => ?_), HW_sp (by omega) hg ha]
  rw [lowP] at hP
  have hP : q < p + 1 := by simpa using hP
  rw [full_tb]
  have e : upN g p a q < na := by
    unfold upN; split
    · exact ha
    · exact hg q (by omega)
  simp [e]; omega
section NFc
variable {f : Nat → Int32} {Tl : Nat → LawT} {na np ill : Nat}
/-- where all hold what they can: the class's count -/
theorem NF_cn {g : Nat → Nat} {p a its : Nat} (hnp : np ≤ 8) (hp : p < np) (hg : ∀ q, q < p → g q < na) (ha : a < na) (hv : ∀ b, b < na → 0 < mu0 f np ill (cnA f Tl) b (heldM (2 ^ (p + 1) - 1) (upN g p a) b)) (hd : Nat → Nat) (hh : ∀ b, b < na → hd b = heldM (2 ^ (p + 1) - 1) (upN g p a) b) : NF (mu0 f np ill (cnA f Tl)) (coA f Tl) na (2 ^ np - 1) its p g a = sh (CN 1 ill (cbA f Tl np) (beN f np) hd (coA f Tl) ((2 ^ np - 1) &&& (255 ^^^ (2 ^ (p + 1) - 1))) na ((2 ^ np - 1) &&& (255 ^^^ (2 ^ (p + 1) - 1)))) (spN (coA f Tl) g p + coA f Tl a p) its := by
  rw [NF_sh hnp hp hg ha]
  have e : ∀ k, Cm (muH (2 ^ (p + 1) - 1) (upN g p a) (mu0 f np ill (cnA f Tl))) (wm (coA f Tl)) na ((2 ^ np - 1) &&& (255 ^^^ (2 ^ (p + 1) - 1))) k = CN 1 ill (cbA f Tl np) (beN f np) hd (coA f Tl) ((2 ^ np - 1) &&& (255 ^^^ (2 ^ (p + 1) - 1))) na ((2 ^ np - 1) &&& (255 ^^^ (2 ^ (p + 1) - 1))) k := by
    intro k
    rw [CN, wtX_1]
    refine Cm_congS na (S0 := (2 ^ np - 1) &&& (255 ^^^ (2 ^ (p + 1) - 1))) (fun b hb c hc hcW => ?_) _ k (Nat.and_self _)
    have hw : ∀ r, c.testBit r = true → ((2 ^ np - 1) &&& (255 ^^^ (2 ^ (p + 1) - 1))).testBit r = true := fun r hr => by
      have e1 := congrArg (fun x => x.testBit r) hcW
      simp only [Nat.testBit_and] at e1
      rw [hr, Bool.true_and] at e1
      rw [Nat.testBit_and]; exact e1
    have nP : ∀ r, c.testBit r = true → (2 ^ (p + 1) - 1).testBit r = false := fun r hr => by
      have := hw r hr
      rw [Nat.testBit_and, Nat.testBit_xor, full_tb] at this
      simp only [Bool.and_eq_true, decide_eq_true_eq] at this
      have r8 : r < 8 := by omega
      have c8 : (255 : Nat).testBit r = true := by rw [c255]; simp [r8]
      rw [c8] at this
      simpa using this.2
    have d0 : c &&& (2 ^ (p + 1) - 1) = 0 := Nat.eq_of_testBit_eq fun r => by
      rw [Nat.testBit_and, Nat.zero_testBit]
      cases h : c.testBit r
      · rfl
      · rw [nP r h]; rfl
    have d1 : heldM (2 ^ (p + 1) - 1) (upN g p a) b &&& c = 0 := Nat.eq_of_testBit_eq fun r => by
      rw [Nat.testBit_and, Nat.zero_testBit, held_tb (P_lt (by omega))]
      cases h : c.testBit r
      · simp
      · rw [nP r h]; rfl
    rw [muH, if_pos d0]
    exact mu_held f Tl ill hd (hh b hb) (hv b hb) (held_lt _ _ _) hc hw d1 hnp
  unfold sh
  split
  · exact e _
  · rfl
end NFc
