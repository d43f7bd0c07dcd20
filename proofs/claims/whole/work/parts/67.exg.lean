/-! who plays what: g gives the parts S to actors below a, each as he may -/
def Exg (mu : Nat → Nat → Nat) : Nat → Nat → (Nat → Nat) → Prop
  | 0, S, _ => S = 0
  | a + 1, S, g => ∃ c, c < 256 ∧ c &&& S = c ∧ 0 < mu a c ∧ (∀ p, p < 8 → (c.testBit p = true ↔ (S.testBit p = true ∧ g p = a))) ∧ Exg mu a (S ^^^ c) g
def wg (wt : Nat → Nat → Nat) (S : Nat) (g : Nat → Nat) : Nat := sumN 8 (fun p => if S.testBit p = true then wt (g p) p else 0)
theorem xr_tb {S c p : Nat} (hc : c &&& S = c) : (S ^^^ c).testBit p = true ↔ (S.testBit p = true ∧ c.testBit p = false) := by
  rw [Nat.testBit_xor]
  have := sub_iff.mp hc p
  cases hs : S.testBit p <;> cases hp : c.testBit p <;> simp_all
theorem Exg.cong {mu : Nat → Nat → Nat} {g g' : Nat → Nat} : ∀ {a S : Nat}, (∀ p, p < 8 → S.testBit p = true → g p = g' p) → Exg mu a S g → Exg mu a S g'
  | 0, _, _, x => x
  | a + 1, S, h, x => by
    obtain ⟨c, c1, c2, c3, c4, c5⟩ := x
    refine ⟨c, c1, c2, c3, fun p hp => ?_, c5.cong (fun p hp hS => h p hp ((xr_tb c2).mp hS).1)⟩
    rw [c4 p hp]
    constructor
    · rintro ⟨q1, q2⟩; exact ⟨q1, by rw [← h p hp q1]; exact q2⟩
    · rintro ⟨q1, q2⟩; exact ⟨q1, by rw [h p hp q1]; exact q2⟩
theorem Exg.lt {mu : Nat → Nat → Nat} {g : Nat → Nat} : ∀ {a S : Nat}, Exg mu a S g → ∀ p, p < 8 → S.testBit p = true → g p < a
  | 0, S, x, p, _, hS => by
    have x : S = 0 := x
    rw [x] at hS; simp at hS
  | a + 1, S, x, p, hp, hS => by
    obtain ⟨c, c1, c2, c3, c4, c5⟩ := x
    by_cases hc : c.testBit p = true
    · have := ((c4 p hp).mp hc).2; omega
    · have := c5.lt p hp ((xr_tb c2).mpr ⟨hS, by simpa using hc⟩); omega
theorem wg_split {wt : Nat → Nat → Nat} {S c a : Nat} {g : Nat → Nat} (hc : c &&& S = c) (hg : ∀ p, p < 8 → (c.testBit p = true ↔ (S.testBit p = true ∧ g p = a))) : wg wt S g = wg wt (S ^^^ c) g + wm wt a c := by
  rw [wg, wg, wm, ← sumN_add]
  refine sumN_cong fun p hp => ?_
  by_cases h1 : c.testBit p = true
  · obtain ⟨q1, q2⟩ := (hg p hp).mp h1
    rw [if_pos q1, if_neg (fun q => by have := ((xr_tb hc).mp q).2; rw [h1] at this; cases this), if_pos h1, q2, Nat.zero_add]
  · have h1' : c.testBit p = false := by simpa using h1
    by_cases h2 : S.testBit p = true
    · rw [if_pos h2, if_pos ((xr_tb hc).mpr ⟨h2, h1'⟩), if_neg h1, Nat.add_zero]
    · rw [if_neg h2, if_neg (fun q => h2 ((xr_tb hc).mp q).1), if_neg h1]
theorem Cm_pos {mu wt : Nat → Nat → Nat} : ∀ (a S k : Nat), S < 256 → (0 < Cm mu (wm wt) a S k ↔ ∃ g, Exg mu a S g ∧ wg wt S g = k)
  | 0, S, k, _ => by
    rw [Cm]
    constructor
    · intro h
      by_cases c : S = 0 ∧ k = 0
      · refine ⟨fun _ => 0, c.1, ?_⟩
        rw [c.1, c.2]; exact sumN_0 (fun i _ => by simp)
      · rw [if_neg c] at h; exact absurd h (Nat.lt_irrefl 0)
    · rintro ⟨g, h1, h2⟩
      have h1 : S = 0 := h1
      subst h1
      have : wg wt 0 g = 0 := sumN_0 (fun i _ => by simp)
      rw [this] at h2
      rw [if_pos ⟨rfl, h2.symm⟩]; exact Nat.one_pos
  | a + 1, S, k, hS => by
    rw [Cm, sumN_pos]
    constructor
    · rintro ⟨c, hc, h⟩
      by_cases hcS : c &&& S = c
      · rw [if_pos hcS] at h
        have hm : 0 < mu a c := Nat.pos_of_ne_zero (fun e => by rw [e, Nat.zero_mul] at h; exact absurd h (Nat.lt_irrefl 0))
        have hs : 0 < sh (Cm mu (wm wt) a (S ^^^ c)) (wm wt a c) k := Nat.pos_of_ne_zero (fun e => by rw [e, Nat.mul_zero] at h; exact absurd h (Nat.lt_irrefl 0))
        unfold sh at hs
        by_cases hw : wm wt a c ≤ k
        · rw [if_pos hw] at hs
          obtain ⟨g, g1, g2⟩ := (Cm_pos a (S ^^^ c) _ (xr_lt hS hc)).mp hs
          have hg' : ∀ p, p < 8 → (c.testBit p = true ↔ (S.testBit p = true ∧ (if c.testBit p = true then a else g p) = a)) := by
            intro p hp
            constructor
            · intro q; exact ⟨sub_iff.mp hcS p q, if_pos q⟩
            · rintro ⟨q1, q2⟩
              by_cases q : c.testBit p = true
              · exact q
              · rw [if_neg q] at q2
                have := g1.lt p hp ((xr_tb hcS).mpr ⟨q1, by simpa using q⟩)
                omega
          have ga : ∀ p, p < 8 → (S ^^^ c).testBit p = true → g p = (if c.testBit p = true then a else g p) := by
            intro p _ q
            rw [if_neg (by rw [((xr_tb hcS).mp q).2]; decide)]
          refine ⟨fun p => if c.testBit p = true then a else g p, ⟨c, hc, hcS, hm, hg', g1.cong ga⟩, ?_⟩
          rw [wg_split hcS hg']
          have : wg wt (S ^^^ c) (fun p => if c.testBit p = true then a else g p) = wg wt (S ^^^ c) g := by
            refine sumN_cong fun p hp => ?_
            by_cases q : (S ^^^ c).testBit p = true
            · rw [if_pos q, if_pos q]
              show wt (if c.testBit p = true then a else g p) p = _
              rw [← ga p hp q]
            · rw [if_neg q, if_neg q]
          rw [this, g2]; omega
        · rw [if_neg hw] at hs; exact absurd hs (Nat.lt_irrefl 0)
      · rw [if_neg hcS] at h; exact absurd h (Nat.lt_irrefl 0)
    · rintro ⟨g, ⟨c, hc, hcS, hm, hg, g1⟩, g2⟩
      refine ⟨c, hc, ?_⟩
      rw [if_pos hcS]
      rw [wg_split hcS hg] at g2
      refine Nat.mul_pos hm ?_
      unfold sh
      rw [if_pos (by omega)]
      exact (Cm_pos a (S ^^^ c) _ (xr_lt hS hc)).mpr ⟨g, g1, by omega⟩
/-- what an actor may have, with some choices barred -/
noncomputable def muX (fx : Nat → Nat → Bool) (mu : Nat → Nat → Nat) (a c : Nat) : Nat := @ite Nat (∀ p, p < 8 → c.testBit p = true → fx a p = true) (Classical.propDecidable _) (mu a c) 0
theorem Exg_fix {fx : Nat → Nat → Bool} {mu : Nat → Nat → Nat} {g : Nat → Nat} : ∀ {a S : Nat}, Exg (muX fx mu) a S g ↔ Exg mu a S g ∧ ∀ p, p < 8 → S.testBit p = true → fx (g p) p = true
  | 0, S => by
    constructor
    · intro x
      have x : S = 0 := x
      exact ⟨x, fun p _ hS => by rw [x] at hS; simp at hS⟩
    · exact fun x => x.1
  | a + 1, S => by
    constructor
    · rintro ⟨c, c1, c2, c3, c4, c5⟩
      rw [muX] at c3
      split at c3
      · rename_i hfx
        obtain ⟨x1, x2⟩ := (Exg_fix (a := a)).mp c5
        refine ⟨⟨c, c1, c2, c3, c4, x1⟩, fun p hp hS => ?_⟩
        by_cases hc : c.testBit p = true
        · rw [((c4 p hp).mp hc).2]; exact hfx p hp hc
        · exact x2 p hp ((xr_tb c2).mpr ⟨hS, by simpa using hc⟩)
      · exact absurd c3 (Nat.lt_irrefl 0)
    · rintro ⟨⟨c, c1, c2, c3, c4, c5⟩, h⟩
      refine ⟨c, c1, c2, ?_, c4, (Exg_fix (a := a)).mpr ⟨c5, fun p hp hS => h p hp ((xr_tb c2).mp hS).1⟩⟩
      rw [muX, if_pos]
      · exact c3
      · intro p hp hc
        obtain ⟨q1, q2⟩ := (c4 p hp).mp hc
        have := h p hp q1
        rw [q2] at this; exact this
/-- the same for choices of one and of two -/
theorem mu_fix (sg : Nat → Nat → Bool) (pr : Nat → Nat → Nat → Bool) (fx : Nat → Nat → Bool) (a c : Nat) : muOf (fun a p => sg a p && fx a p) (fun a p q => pr a p q && (fx a p && fx a q)) a c = muX fx (muOf sg pr) a c := by
  rw [muX]
  by_cases h : ∀ p, p < 8 → c.testBit p = true → fx a p = true
  · rw [if_pos h, muOf, muOf]
    congr 1
    · congr 1
      refine sumN_cong fun p hp => ?_
      by_cases e : c = 2 ^ p
      · have : fx a p = true := h p hp (by rw [e]; exact Nat.testBit_two_pow_self)
        simp [this]
      · rw [if_neg (fun q => e q.2), if_neg (fun q => e q.2)]
    · refine sumN_cong fun p hp => sumN_cong fun q hq => ?_
      by_cases e : c = 2 ^ p ||| 2 ^ q
      · have h1 : fx a p = true := h p hp (by rw [e, Nat.testBit_or, Nat.testBit_two_pow_self]; rfl)
        have h2 : fx a q = true := h q hq (by rw [e, Nat.testBit_or, Nat.testBit_two_pow_self, Bool.or_true])
        simp [h1, h2]
      · rw [if_neg (fun q => e q.2), if_neg (fun q => e q.2)]
  · rw [if_neg h, muOf]
    have n0 : ¬ c = 0 := by
      intro e; apply h; intro p _ q; rw [e] at q; simp at q
    rw [if_neg n0, sumN_0, sumN_0]
    · intro p hp
      refine sumN_0 fun q hq => ?_
      rw [if_neg]
      rintro ⟨⟨_, q2⟩, q3⟩
      apply h
      intro i hi hb
      rw [q3, Nat.testBit_or, Nat.testBit_two_pow, Nat.testBit_two_pow] at hb
      have q2' : pr a p q = true ∧ fx a p = true ∧ fx a q = true := by simpa using q2
      have hb : p = i ∨ q = i := by simpa using hb
      rcases hb with rfl | rfl
      · exact q2'.2.1
      · exact q2'.2.2
    · intro p hp
      rw [if_neg]
      rintro ⟨q1, q2⟩
      apply h
      intro i hi hb
      rw [q2, Nat.testBit_two_pow] at hb
      have hb : p = i := by simpa using hb
      have q1' : sg a p = true ∧ fx a p = true := by simpa using q1
      rw [← hb]; exact q1'.2
theorem Cm_cong {mu mu' w w' : Nat → Nat → Nat} : ∀ (a : Nat), (∀ b, b < a → ∀ c, c < 256 → mu b c = mu' b c ∧ (0 < mu b c → w b c = w' b c)) → ∀ (S k : Nat), Cm mu w a S k = Cm mu' w' a S k
  | 0, _, S, k => rfl
  | a + 1, h, S, k => by
    rw [Cm, Cm]
    refine sumN_cong fun c hc => ?_
    obtain ⟨h1, h2⟩ := h a (by omega) c hc
    split
    · rw [← h1]
      by_cases z : 0 < mu a c
      · rw [← h2 z]
        congr 1
        exact sh_cong (fun k => Cm_cong a (fun b hb => h b (by omega)) _ k) _ _
      · have z : mu a c = 0 := by omega
        rw [z, Nat.zero_mul, Nat.zero_mul]
    · rfl
