/-! one part's actor fixed: all ways are those with the actors one by one -/
def muR (p0 b : Nat) (mu : Nat → Nat → Nat) (a c : Nat) : Nat := if c.testBit p0 = true ∧ a ≠ b then 0 else mu a c
theorem sub_f {c S p : Nat} (h : c &&& S = c) (hS : S.testBit p = false) : c.testBit p = false := by
  cases e : c.testBit p with
  | false => rfl
  | true => rw [sub_iff.mp h p e] at hS; cases hS
theorem xr_f {c S p : Nat} (h : c &&& S = c) (hS : S.testBit p = false) : (S ^^^ c).testBit p = false := by
  rw [Nat.testBit_xor, hS, sub_f h hS]; rfl
theorem Cm_off {p0 b : Nat} {mu w : Nat → Nat → Nat} : ∀ (a S k : Nat), S.testBit p0 = false → Cm (muR p0 b mu) w a S k = Cm mu w a S k
  | 0, _, _, _ => rfl
  | a + 1, S, k, hS => by
    rw [Cm, Cm]
    refine sumN_cong fun c _ => ?_
    split
    · rename_i hc
      rw [muR, if_neg (fun q => by rw [sub_f hc hS] at q; cases q.1)]
      congr 1
      exact sh_cong (fun k => Cm_off a _ k (xr_f hc hS)) _ _
    · rfl
theorem Cm_zero {p0 b : Nat} {mu w : Nat → Nat → Nat} : ∀ (a S k : Nat), S.testBit p0 = true → a ≤ b → Cm (muR p0 b mu) w a S k = 0
  | 0, S, k, hS, _ => by
    rw [Cm, if_neg]
    rintro ⟨rfl, -⟩
    simp at hS
  | a + 1, S, k, hS, hb => by
    rw [Cm]
    refine sumN_0 fun c _ => ?_
    split
    · rename_i hc
      by_cases q : c.testBit p0 = true
      · rw [muR, if_pos ⟨q, by omega⟩, Nat.zero_mul]
      · rw [sh_z (fun k => Cm_zero a _ k ((xr_tb hc).mpr ⟨hS, by simpa using q⟩) (by omega)), Nat.mul_zero]
    · rfl
theorem Cm_part {p0 : Nat} {mu w : Nat → Nat → Nat} : ∀ (a S k : Nat), S.testBit p0 = true → Cm mu w a S k = sumN a (fun b => Cm (muR p0 b mu) w a S k)
  | 0, S, k, hS => by
    rw [Cm, if_neg]
    · rfl
    · rintro ⟨rfl, -⟩
      simp at hS
  | a + 1, S, k, hS => by
    have e1 : ∀ b, b < a → Cm (muR p0 b mu) w (a + 1) S k = sumN 256 (fun c => if c &&& S = c then (if c.testBit p0 = true then 0 else mu a c * sh (Cm (muR p0 b mu) w a (S ^^^ c)) (w a c) k) else 0) := by
      intro b hb
      rw [Cm]
      refine sumN_cong fun c _ => ?_
      split
      · rw [muR]
        by_cases q : c.testBit p0 = true
        · rw [if_pos ⟨q, by omega⟩, if_pos q, Nat.zero_mul]
        · rw [if_neg (fun x => q x.1), if_neg q]
      · rfl
    have e2 : Cm (muR p0 a mu) w (a + 1) S k = sumN 256 (fun c => if c &&& S = c then (if c.testBit p0 = true then mu a c * sh (Cm mu w a (S ^^^ c)) (w a c) k else 0) else 0) := by
      rw [Cm]
      refine sumN_cong fun c _ => ?_
      split
      · rename_i hc
        rw [muR, if_neg (fun x => x.2 rfl)]
        by_cases q : c.testBit p0 = true
        · rw [if_pos q]
          congr 1
          refine sh_cong (fun k => Cm_off a _ k ?_) _ _
          rw [Nat.testBit_xor, hS, q]; rfl
        · rw [if_neg q, sh_z (fun k => Cm_zero a _ k ((xr_tb hc).mpr ⟨hS, by simpa using q⟩) (Nat.le_refl a)), Nat.mul_zero]
      · rfl
    rw [sumN, sumN_cong e1, e2, sumN_swap, ← sumN_add, Cm]
    refine sumN_cong fun c _ => ?_
    by_cases hc : c &&& S = c
    · rw [if_pos hc, if_pos hc]
      by_cases q : c.testBit p0 = true
      · rw [if_pos q, sumN_0 (fun i _ => by rw [if_pos hc, if_pos q]), Nat.zero_add]
      · rw [if_neg q, Nat.add_zero]
        have e3 : ∀ k, Cm mu w a (S ^^^ c) k = sumN a (fun b => Cm (muR p0 b mu) w a (S ^^^ c) k) := fun k => Cm_part a _ k ((xr_tb hc).mpr ⟨hS, by simpa using q⟩)
        rw [sh_cong e3, sh_sum, ← sumN_mul]
        refine sumN_cong fun b _ => ?_
        rw [if_pos hc, if_neg q]
    · rw [if_neg hc, if_neg hc, sumN_0 (fun i _ => if_neg hc)]
/-! a row of parts given already: the ways with those fixed are the ways to give the rest -/
theorem or_lt {a b : Nat} (ha : a < 256) (hb : b < 256) : a ||| b < 256 := Nat.or_lt_two_pow (n := 8) ha hb
theorem tb_of_eq {a b : Nat} (h : a = b) (i : Nat) : a.testBit i = b.testBit i := by rw [h]
theorem sum_re {P h : Nat} (hP : P < 256) (hh : h &&& P = h) (F : Nat → Nat) : sumN 256 (fun c => if c &&& P = h then F c else 0) = sumN 256 (fun c => if c &&& P = 0 then F (h ||| c) else 0) := by
  have h256 : h < 256 := by rw [← hh]; exact Nat.lt_of_le_of_lt Nat.and_le_right hP
  have key : ∀ c, c < 256 → (if c &&& P = h then F c else 0) = sumN 256 (fun c' => (if c' &&& P = 0 ∧ c = h ||| c' then 1 else 0) * F c) := by
    intro c hc
    by_cases q : c &&& P = h
    · rw [if_pos q]
      have e : ∀ c', (if c' &&& P = 0 ∧ c = h ||| c' then 1 else 0) = (if True ∧ c' = c ^^^ h then 1 else 0) := by
        intro c'
        have : (c' &&& P = 0 ∧ c = h ||| c') ↔ (True ∧ c' = c ^^^ h) := by
          constructor
          · rintro ⟨q1, q2⟩
            refine ⟨trivial, Nat.eq_of_testBit_eq fun i => ?_⟩
            have a1 := tb_of_eq q1 i
            have a2 := tb_of_eq hh i
            rw [q2]
            simp only [Nat.testBit_and, Nat.testBit_xor, Nat.testBit_or, Nat.zero_testBit] at a1 a2 ⊢
            revert a1 a2
            cases c'.testBit i <;> cases P.testBit i <;> cases h.testBit i <;> simp
          · rintro ⟨-, rfl⟩
            constructor
            · refine Nat.eq_of_testBit_eq fun i => ?_
              have a1 := tb_of_eq q i
              simp only [Nat.testBit_and, Nat.testBit_xor, Nat.zero_testBit] at a1 ⊢
              revert a1
              cases c.testBit i <;> cases P.testBit i <;> cases h.testBit i <;> simp
            · refine Nat.eq_of_testBit_eq fun i => ?_
              have a1 := tb_of_eq q i
              simp only [Nat.testBit_and, Nat.testBit_xor, Nat.testBit_or] at a1 ⊢
              revert a1
              cases c.testBit i <;> cases P.testBit i <;> cases h.testBit i <;> simp
        by_cases t : c' &&& P = 0 ∧ c = h ||| c'
        · rw [if_pos t, if_pos (this.mp t)]
        · rw [if_neg t, if_neg (fun x => t (this.mpr x))]
      rw [sumN_cong (fun c' _ => by rw [e c']), sum_pt (xr_lt hc h256) (fun _ => F c), if_pos trivial]
    · rw [if_neg q]
      refine (sumN_0 fun c' _ => ?_).symm
      rw [if_neg, Nat.zero_mul]
      rintro ⟨q1, q2⟩
      apply q
      refine Nat.eq_of_testBit_eq fun i => ?_
      have a1 := tb_of_eq q1 i
      have a2 := tb_of_eq hh i
      rw [q2]
      simp only [Nat.testBit_and, Nat.testBit_or, Nat.zero_testBit] at a1 a2 ⊢
      revert a1 a2
      cases c'.testBit i <;> cases P.testBit i <;> cases h.testBit i <;> simp
  rw [sumN_cong key, sumN_swap]
  refine sumN_cong fun c' hc' => ?_
  exact sum_pt (or_lt h256 hc') F
def heldM (P : Nat) (pre : Nat → Nat) (a : Nat) : Nat := bitsB (fun p => P.testBit p && (pre p == a)) 8
theorem held_lt (P : Nat) (pre : Nat → Nat) (a : Nat) : heldM P pre a < 256 := bitsB_lt _ 8
theorem held_tb {P : Nat} (hP : P < 256) (pre : Nat → Nat) (a i : Nat) : (heldM P pre a).testBit i = (P.testBit i && (pre i == a)) := by
  rw [heldM, bitsB_tb]
  by_cases hi : i < 8
  · simp [hi]
  · simp [hi, tb_big hP (show 8 ≤ i by omega)]
noncomputable def muF (P : Nat) (pre : Nat → Nat) (mu : Nat → Nat → Nat) : Nat → Nat → Nat := muX (fun a p => !P.testBit p || (pre p == a)) mu
def muH (P : Nat) (pre : Nat → Nat) (mu : Nat → Nat → Nat) (a c : Nat) : Nat := if c &&& P = 0 then mu a (heldM P pre a ||| c) else 0
def HW (P : Nat) (pre : Nat → Nat) (wt : Nat → Nat → Nat) (a : Nat) : Nat := sumN 8 (fun p => if P.testBit p = true ∧ pre p < a then wt (pre p) p else 0)
theorem CmF_zero {P : Nat} {pre : Nat → Nat} {mu w : Nat → Nat → Nat} : ∀ (a S k : Nat), (∃ p, p < 8 ∧ S.testBit p = true ∧ P.testBit p = true ∧ a ≤ pre p) → Cm (muF P pre mu) w a S k = 0
  | 0, S, k, ⟨p, _, hS, _, _⟩ => by
    rw [Cm, if_neg]
    rintro ⟨rfl, -⟩
    simp at hS
  | a + 1, S, k, ⟨p, hp, hS, hPp, ha⟩ => by
    rw [Cm]
    refine sumN_0 fun c _ => ?_
    split
    · rename_i hc
      by_cases q : c.testBit p = true
      · rw [muF, muX, if_neg, Nat.zero_mul]
        intro x
        have := x p hp q
        rw [hPp] at this
        have : pre p = a := by simpa using this
        omega
      · rw [sh_z (fun k => CmF_zero a _ k ⟨p, hp, (xr_tb hc).mpr ⟨hS, by simpa using q⟩, hPp, by omega⟩), Nat.mul_zero]
    · rfl
theorem c255 (i : Nat) : (255 : Nat).testBit i = decide (i < 8) := by
  have := Nat.testBit_two_pow_sub_one 8 i
  exact this
theorem wm_or (wt : Nat → Nat → Nat) (a : Nat) {h c : Nat} (hd : ∀ i, ¬ (h.testBit i = true ∧ c.testBit i = true)) : wm wt a (h ||| c) = wm wt a h + wm wt a c := by
  rw [wm, wm, wm, ← sumN_add]
  refine sumN_cong fun p _ => ?_
  rw [Nat.testBit_or]
  by_cases q1 : h.testBit p = true
  · have q2 : ¬ c.testBit p = true := fun x => hd p ⟨q1, x⟩
    rw [if_pos (by rw [q1]; rfl), if_pos q1, if_neg q2, Nat.add_zero]
  · by_cases q2 : c.testBit p = true
    · rw [if_pos (by rw [q2, Bool.or_true]), if_neg q1, if_pos q2, Nat.zero_add]
    · rw [if_neg (by simp_all), if_neg q1, if_neg q2]
theorem HW_s {P : Nat} (hP : P < 256) (pre : Nat → Nat) (wt : Nat → Nat → Nat) (a : Nat) : HW P pre wt (a + 1) = HW P pre wt a + wm wt a (heldM P pre a) := by
  rw [HW, HW, wm, ← sumN_add]
  refine sumN_cong fun p _ => ?_
  rw [held_tb hP]
  by_cases q1 : P.testBit p = true
  · by_cases q2 : pre p = a
    · rw [if_pos ⟨q1, by omega⟩, if_neg (fun x => by omega), if_pos (by simp [q1, q2]), Nat.zero_add, q2]
    · rw [if_neg (c := (P.testBit p && pre p == a) = true) (by simp [q1, q2]), Nat.add_zero]
      by_cases q3 : pre p < a
      · rw [if_pos ⟨q1, by omega⟩, if_pos ⟨q1, q3⟩, Nat.add_zero]
      · rw [if_neg (fun x => by omega), if_neg (fun x => q3 x.2)]
  · rw [if_neg (fun x => q1 x.1), if_neg (fun x => q1 x.1), if_neg (by simp [q1])]
theorem CmF_held {P : Nat} (hP : P < 256) {pre : Nat → Nat} {mu wt : Nat → Nat → Nat} : ∀ (a S k : Nat), S < 256 → (∀ p, p < 8 → P.testBit p = true → (S.testBit p = true ↔ pre p < a)) → Cm (muF P pre mu) (wm wt) a S k = sh (Cm (muH P pre mu) (wm wt) a (S &&& (255 ^^^ P))) (HW P pre wt a) k
  | 0, S, k, hS, h => by
    have e1 : S &&& (255 ^^^ P) = S := by
      refine Nat.eq_of_testBit_eq fun i => ?_
      rw [Nat.testBit_and, Nat.testBit_xor, c255]
      by_cases hi : i < 8
      · cases q : P.testBit i with
        | false => simp [hi]
        | true =>
          have := h i hi q
          have : S.testBit i = false := by
            cases z : S.testBit i with
            | false => rfl
            | true => exact absurd (this.mp z) (Nat.not_lt_zero _)
          rw [this]; rfl
      · rw [tb_big hS (by omega)]; rfl
    have e2 : HW P pre wt 0 = 0 := sumN_0 fun p _ => if_neg (fun x => Nat.not_lt_zero _ x.2)
    rw [e1, e2, sh_0]
    rfl
  | a + 1, S, k, hS, h => by
    have hsub : heldM P pre a &&& P = heldM P pre a := by
      rw [sub_iff]; intro i hi
      rw [held_tb hP] at hi
      have : P.testBit i = true ∧ pre i = a := by simpa using hi
      exact this.1
    have e1 : ∀ c, c < 256 → (if c &&& S = c then muF P pre mu a c * sh (Cm (muF P pre mu) (wm wt) a (S ^^^ c)) (wm wt a c) k else 0) = (if c &&& P = heldM P pre a then (if c &&& S = c then mu a c * sh (Cm (muF P pre mu) (wm wt) a (S ^^^ c)) (wm wt a c) k else 0) else 0) := by
      intro c hc
      by_cases q : c &&& S = c
      · rw [if_pos q, if_pos q]
        by_cases q2 : c &&& P = heldM P pre a
        · rw [if_pos q2, muF, muX, if_pos]
          intro p hp hcp
          have := tb_of_eq q2 p
          rw [Nat.testBit_and, held_tb hP, hcp] at this
          cases hPp : P.testBit p with
          | false => rfl
          | true =>
            rw [hPp] at this
            simp only [Bool.true_and] at this
            rw [← this]; rfl
        · rw [if_neg q2]
          by_cases q3 : ∀ p, p < 8 → c.testBit p = true → (!P.testBit p || (pre p == a)) = true
          · -- some held part is not taken
            have : ∃ p, p < 8 ∧ (S ^^^ c).testBit p = true ∧ P.testBit p = true ∧ a ≤ pre p := by
              apply Classical.byContradiction
              intro nx
              apply q2
              refine m_ext (Nat.lt_of_le_of_lt Nat.and_le_left hc) (held_lt P pre a) fun p hp => ?_
              rw [Nat.testBit_and, held_tb hP]
              cases hPp : P.testBit p with
              | false => simp
              | true =>
                rw [Bool.and_true, Bool.true_and]
                cases hcp : c.testBit p with
                | true =>
                  have := q3 p hp hcp
                  rw [hPp] at this
                  have : pre p = a := by simpa using this
                  simp [this]
                | false =>
                  by_cases e : pre p = a
                  · exfalso
                    have hSp : S.testBit p = true := (h p hp hPp).mpr (by omega)
                    exact nx ⟨p, hp, (xr_tb q).mpr ⟨hSp, hcp⟩, hPp, by omega⟩
                  · simp [e]
            rw [sh_z (fun k => CmF_zero a _ k this), Nat.mul_zero]
          · rw [muF, muX, if_neg q3, Nat.zero_mul]
      · rw [if_neg q, if_neg q]; split <;> rfl
    rw [Cm, sumN_cong e1, sum_re hP hsub, HW_s hP]
    rw [show sh (Cm (muH P pre mu) (wm wt) (a + 1) (S &&& (255 ^^^ P))) (HW P pre wt a + wm wt a (heldM P pre a)) k = sh (fun k => sumN 256 (fun c => if c &&& (S &&& (255 ^^^ P)) = c then muH P pre mu a c * sh (Cm (muH P pre mu) (wm wt) a ((S &&& (255 ^^^ P)) ^^^ c)) (wm wt a c) k else 0)) (HW P pre wt a + wm wt a (heldM P pre a)) k from rfl, sh_sum]
    refine sumN_cong fun c hc => ?_
    by_cases q1 : c &&& P = 0
    · rw [if_pos q1]
      have dis : ∀ i, ¬ ((heldM P pre a).testBit i = true ∧ c.testBit i = true) := by
        rintro i ⟨x1, x2⟩
        have := tb_of_eq q1 i
        rw [held_tb hP] at x1
        rw [Nat.testBit_and, x2, Nat.zero_testBit] at this
        have x3 : P.testBit i = true ∧ pre i = a := by simpa using x1
        rw [x3.1] at this; cases this
      have hdS : ∀ i, (heldM P pre a).testBit i = true → S.testBit i = true := by
        intro i hi
        rw [held_tb hP] at hi
        have x3 : P.testBit i = true ∧ pre i = a := by simpa using hi
        have hi8 : i < 8 := by
          apply Classical.byContradiction; intro z
          rw [tb_big hP (by omega)] at x3; cases x3.1
        exact (h i hi8 x3.1).mpr (by omega)
      have sub : ((heldM P pre a ||| c) &&& S = heldM P pre a ||| c) ↔ (c &&& (S &&& (255 ^^^ P)) = c) := by
        rw [sub_iff, sub_iff]
        constructor
        · intro x i hi
          have a1 := tb_of_eq q1 i
          rw [Nat.testBit_and, hi, Nat.zero_testBit, Bool.true_and] at a1
          have hi8 : i < 8 := by
            apply Classical.byContradiction; intro z
            rw [tb_big hc (by omega)] at hi; cases hi
          rw [Nat.testBit_and, Nat.testBit_xor, c255, a1, x i (by rw [Nat.testBit_or, hi, Bool.or_true])]
          simp [hi8]
        · intro x i hi
          rw [Nat.testBit_or] at hi
          cases y : (heldM P pre a).testBit i with
          | true => exact hdS i y
          | false =>
            rw [y, Bool.false_or] at hi
            have := x i hi
            rw [Nat.testBit_and] at this
            cases z : S.testBit i with
            | true => rfl
            | false => rw [z] at this; cases this
      by_cases q2 : c &&& (S &&& (255 ^^^ P)) = c
      · rw [if_pos (sub.mpr q2)]
        have e2 : ∀ k, Cm (muF P pre mu) (wm wt) a (S ^^^ (heldM P pre a ||| c)) k = sh (Cm (muH P pre mu) (wm wt) a ((S &&& (255 ^^^ P)) ^^^ c)) (HW P pre wt a) k := by
          intro k
          rw [CmF_held hP a _ k (xr_lt hS (or_lt (held_lt P pre a) hc))]
          · congr 2
            refine Nat.eq_of_testBit_eq fun i => ?_
            have a1 := tb_of_eq q1 i
            have a2 := held_tb hP pre a i
            have a3 := sub_iff.mp q2 i
            have a4 := hdS i
            have a5 : decide (i < 8) = false → S.testBit i = false := fun z => tb_big hS (by simpa using z)
            simp only [Nat.testBit_and, Nat.testBit_xor, Nat.testBit_or, Nat.zero_testBit, c255, a2] at a1 a3 a4 ⊢
            revert a1 a3 a4 a5
            cases S.testBit i <;> cases P.testBit i <;> cases c.testBit i <;> cases (pre i == a) <;> cases decide (i < 8) <;> simp
          · intro p hp hPp
            have a1 := tb_of_eq q1 p
            rw [Nat.testBit_and, hPp, Bool.and_true, Nat.zero_testBit] at a1
            rw [Nat.testBit_xor, Nat.testBit_or, held_tb hP, hPp, a1]
            have := h p hp hPp
            by_cases e : pre p = a
            · have hSp : S.testBit p = true := this.mpr (by omega)
              rw [hSp]; simp [e]
            · have e' : (pre p == a) = false := by simpa using e
              rw [e']
              simp only [Bool.and_false, Bool.or_false, Bool.xor_false]
              rw [this]; omega
        rw [sh_cong e2, sh_sh, wm_or wt a dis]
        have e3 : ∀ k, (if c &&& (S &&& (255 ^^^ P)) = c then muH P pre mu a c * sh (Cm (muH P pre mu) (wm wt) a ((S &&& (255 ^^^ P)) ^^^ c)) (wm wt a c) k else 0) = mu a (heldM P pre a ||| c) * sh (Cm (muH P pre mu) (wm wt) a ((S &&& (255 ^^^ P)) ^^^ c)) (wm wt a c) k := by
          intro k; rw [if_pos q2, muH, if_pos q1]
        rw [sh_cong e3, sh_mul, sh_sh]
        congr 2
        omega
      · rw [if_neg (fun x => q2 (sub.mp x)), sh_z (fun k => if_neg q2)]
    · rw [if_neg q1]
      refine (sh_z (fun k => ?_) _ _).symm
      split
      · rw [muH, if_neg q1, Nat.zero_mul]
      · rfl
