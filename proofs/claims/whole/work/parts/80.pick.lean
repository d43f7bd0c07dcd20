/-! part by part: who is picked, by how many ways follow each choice -/
def upN (g : Nat → Nat) (p a : Nat) : Nat → Nat := fun q => if q = p then a else g q
theorem lowP {p i : Nat} : (2 ^ p - 1).testBit i = decide (i < p) := Nat.testBit_two_pow_sub_one p i
noncomputable def NF (mu co : Nat → Nat → Nat) (na S its p : Nat) (g : Nat → Nat) (a : Nat) : Nat := Cm (muF (2 ^ (p + 1) - 1) (upN g p a) mu) (wm co) na S its
noncomputable def NQ (mu co : Nat → Nat → Nat) (na S its p : Nat) (g : Nat → Nat) : Nat := Cm (muF (2 ^ p - 1) g mu) (wm co) na S its
theorem muF_cong {P : Nat} {pre pre' : Nat → Nat} {mu : Nat → Nat → Nat} (h : ∀ p, P.testBit p = true → pre p = pre' p) : muF P pre mu = muF P pre' mu := by
  unfold muF
  congr 1
  funext a p
  cases e : P.testBit p with
  | false => rfl
  | true => rw [h p e]
theorem NF_cong {mu co : Nat → Nat → Nat} {na S its p : Nat} {g g' : Nat → Nat} (h : ∀ q, q < p → g q = g' q) (a : Nat) : NF mu co na S its p g a = NF mu co na S its p g' a := by
  unfold NF
  rw [muF_cong (pre' := upN g' p a)]
  intro q hq
  rw [lowP] at hq
  have hq : q < p + 1 := by simpa using hq
  unfold upN
  split
  · rfl
  · exact h q (by omega)
theorem NQ_cong {mu co : Nat → Nat → Nat} {na S its p : Nat} {g g' : Nat → Nat} (h : ∀ q, q < p → g q = g' q) : NQ mu co na S its p g = NQ mu co na S its p g' := by
  unfold NQ
  rw [muF_cong (pre' := g')]
  intro q hq
  rw [lowP] at hq
  exact h q (by simpa using hq)
theorem NF_NQ {mu co : Nat → Nat → Nat} {na S its p : Nat} {g : Nat → Nat} : NF mu co na S its p g (g p) = NQ mu co na S its (p + 1) g := by
  unfold NF NQ
  rw [muF_cong (pre' := g)]
  intro q _
  unfold upN
  split
  · rename_i e; rw [e]
  · rfl
theorem NQ_0 {mu co : Nat → Nat → Nat} {na S its : Nat} {g : Nat → Nat} : NQ mu co na S its 0 g = Cm mu (wm co) na S its := by
  unfold NQ
  refine Cm_cong na (fun b _ c _ => ⟨?_, fun _ => rfl⟩) S its
  rw [muF, muX, if_pos]
  intro p _ _
  simp
/-- each way gives the part to just one -/
theorem NQ_sum {mu co : Nat → Nat → Nat} {na S its p : Nat} {g : Nat → Nat} (hp : p < 8) (hS : S.testBit p = true) : NQ mu co na S its p g = sumN na (fun a => NF mu co na S its p g a) := by
  unfold NQ
  rw [Cm_part (p0 := p) na S its hS]
  refine sumN_cong fun b _ => ?_
  refine Cm_cong na (fun a _ c _ => ⟨?_, fun _ => rfl⟩) S its
  unfold muR muF muX
  by_cases h1 : ∀ q, q < 8 → c.testBit q = true → (!(2 ^ (p + 1) - 1).testBit q || upN g p b q == a) = true
  · rw [if_pos h1, if_neg, if_pos]
    · intro q hq hc
      have := h1 q hq hc
      show (!(2 ^ p - 1).testBit q || g q == a) = true
      rw [lowP] at this ⊢
      by_cases e : q < p
      · unfold upN at this
        rw [if_neg (by omega)] at this
        simp [show q < p + 1 by omega] at this
        simp [this]
      · simp [e]
    · rintro ⟨hc, hab⟩
      have := h1 p hp hc
      rw [lowP] at this
      unfold upN at this
      rw [if_pos rfl] at this
      simp at this
      exact hab this.symm
  · rw [if_neg h1]
    by_cases h2 : c.testBit p = true ∧ a ≠ b
    · rw [if_pos h2]
    · rw [if_neg h2, if_neg]
      intro h3
      apply h1
      intro q hq hc
      rw [lowP]
      by_cases e : q = p
      · subst e
        have : a = b := Classical.byContradiction fun z => h2 ⟨hc, z⟩
        unfold upN
        rw [if_pos rfl]
        simp [this]
      · by_cases e2 : q < p
        · have : (!(2 ^ p - 1).testBit q || g q == a) = true := h3 q hq hc
          rw [lowP] at this
          simp [e2] at this
          unfold upN
          rw [if_neg e]
          simp [this]
        · simp [show ¬ q < p + 1 by omega]
/-- how many are still ahead -/
noncomputable def lef (N : Nat → (Nat → Nat) → Nat → Nat) (g : Nat → Nat) (i : Nat) : Nat → Nat
  | 0 => i
  | p + 1 => lef N g i p - sumN (g p) (fun a => N p g a)
def PickR (N : Nat → (Nat → Nat) → Nat → Nat) (np i : Nat) (g : Nat → Nat) : Prop := ∀ p, p < np → sumN (g p) (fun a => N p g a) ≤ lef N g i p ∧ lef N g i p < sumN (g p + 1) (fun a => N p g a)
theorem lef_cong {N : Nat → (Nat → Nat) → Nat → Nat} (hN : ∀ p g g', (∀ q, q < p → g q = g' q) → ∀ a, N p g a = N p g' a) {g g' : Nat → Nat} (i : Nat) : ∀ p, (∀ q, q < p → g q = g' q) → lef N g i p = lef N g' i p
  | 0, _ => rfl
  | p + 1, h => by
    rw [lef, lef, lef_cong hN i p (fun q hq => h q (by omega)), h p (by omega), sumN_cong (fun a _ => hN p g g' (fun q hq => h q (by omega)) a)]
theorem PickR.uniq {N : Nat → (Nat → Nat) → Nat → Nat} (hN : ∀ p g g', (∀ q, q < p → g q = g' q) → ∀ a, N p g a = N p g' a) {np i : Nat} {g g' : Nat → Nat} (x : PickR N np i g) (x' : PickR N np i g') : ∀ p, p ≤ np → ∀ q, q < p → g q = g' q
  | 0, _, q, hq => absurd hq (Nat.not_lt_zero q)
  | p + 1, hp, q, hq => by
    have ih := PickR.uniq hN x x' p (by omega)
    by_cases e : q = p
    · subst e
      obtain ⟨a1, a2⟩ := x q (by omega)
      obtain ⟨b1, b2⟩ := x' q (by omega)
      rw [lef_cong hN i q ih] at a1 a2
      rw [sumN_cong (fun a _ => hN q g g' ih a)] at a1 a2
      have b1 : sumN (g' q) (N q g') ≤ lef N g' i q := b1
      have b2 : lef N g' i q < sumN (g' q + 1) (N q g') := b2
      rcases Nat.lt_trichotomy (g q) (g' q) with z | z | z
      · have := sumN_mono (F := N q g') (show g q + 1 ≤ g' q by omega); omega
      · exact z
      · have := sumN_mono (F := N q g') (show g' q + 1 ≤ g q by omega); omega
    · exact ih q (by omega)
theorem NF_ok (mu co : Nat → Nat → Nat) (na S its : Nat) : ∀ p g g', (∀ q, q < p → g q = g' q) → ∀ a, NF mu co na S its p g a = NF mu co na S its p g' a := fun _ _ _ h a => NF_cong h a
/-- the FIRST is the one with none ahead -/
theorem Fst.pick {mu co : Nat → Nat → Nat} {na np S : Nat} {g : Nat → Nat} (hn : na ≤ 8) (hS : S < 256) (hnp : np ≤ 8) (hSp : ∀ p, p < np → S.testBit p = true) (x : Fst mu co na S g) : PickR (NF mu co na S (wg co S g)) np 0 g := by
  have z : ∀ p, p < np → ∀ a, a < g p → NF mu co na S (wg co S g) p g a = 0 := by
    intro p hp a ha
    apply Classical.byContradiction
    intro q
    obtain ⟨g', g1, g2⟩ := (Cm_pos na S _ hS).mp (Nat.pos_of_ne_zero q)
    obtain ⟨g3, g4⟩ := Exg_fix.mp g1
    have e : ∀ r, r < p → S.testBit r = true → g' r = g r := by
      intro r hr hs
      have := g4 r (by omega) hs
      rw [lowP] at this
      unfold upN at this
      rw [if_neg (by omega)] at this
      simp [show r < p + 1 by omega] at this
      exact this.symm
    have ep : g' p = a := by
      have := g4 p (by omega) (hSp p hp)
      rw [lowP] at this
      unfold upN at this
      rw [if_pos rfl] at this
      simp at this
      exact this.symm
    rcases x.2 g' g3 with y | ⟨y1, y2⟩
    · omega
    · have := row_lt g3 x.1 hn (p := p) (by omega) (hSp p hp) e (by rw [ep]; exact ha)
      omega
  have l0 : ∀ p, p ≤ np → lef (NF mu co na S (wg co S g)) g 0 p = 0 := by
    intro p
    induction p with
    | zero => intro _; rfl
    | succ p ih => intro hp; rw [lef, ih (by omega), Nat.zero_sub]
  intro p hp
  rw [l0 p (by omega), sumN_0 (z p hp)]
  refine ⟨Nat.le_refl _, ?_⟩
  rw [sumN, sumN_0 (z p hp), Nat.zero_add, NF_NQ]
  refine (Cm_pos na S _ hS).mpr ⟨g, Exg_fix.mpr ⟨x.1, fun q _ _ => ?_⟩, rfl⟩
  simp
