/-! SUMS -/
def sumN : Nat → (Nat → Nat) → Nat
  | 0, _ => 0
  | n + 1, F => sumN n F + F n
theorem sumN_cong {F G : Nat → Nat} : ∀ {n : Nat}, (∀ i, i < n → F i = G i) → sumN n F = sumN n G
  | 0, _ => rfl
  | n + 1, h => by rw [sumN, sumN, sumN_cong (fun i hi => h i (by omega)), h n (by omega)]
theorem sumN_0 {F : Nat → Nat} : ∀ {n : Nat}, (∀ i, i < n → F i = 0) → sumN n F = 0
  | 0, _ => rfl
  | n + 1, h => by rw [sumN, sumN_0 (fun i hi => h i (by omega)), h n (by omega)]
theorem sumN_add (F G : Nat → Nat) : ∀ n : Nat, sumN n (fun i => F i + G i) = sumN n F + sumN n G
  | 0 => rfl
  | n + 1 => by rw [sumN, sumN, sumN, sumN_add F G n]; omega
theorem sumN_mul (c : Nat) (F : Nat → Nat) : ∀ n : Nat, sumN n (fun i => c * F i) = c * sumN n F
  | 0 => rfl
  | n + 1 => by rw [sumN, sumN, sumN_mul c F n, Nat.mul_add]
theorem sumN_swap (F : Nat → Nat → Nat) (m : Nat) : ∀ n : Nat, sumN n (fun i => sumN m (fun j => F i j)) = sumN m (fun j => sumN n (fun i => F i j))
  | 0 => (sumN_0 (fun _ _ => rfl)).symm
  | n + 1 => by
    rw [sumN, sumN_swap F m n, ← sumN_add]
    rfl
theorem sumN_one {F : Nat → Nat} {i0 : Nat} : ∀ {n : Nat}, i0 < n → sumN n (fun i => if i = i0 then F i else 0) = F i0
  | 0, h => by omega
  | n + 1, h => by
    rw [sumN]
    by_cases e : i0 = n
    · subst e
      rw [sumN_0 (fun i hi => if_neg (by omega)), if_pos rfl, Nat.zero_add]
    · rw [sumN_one (n := n) (by omega), if_neg (fun q => e q.symm), Nat.add_zero]
theorem sumN_pos {F : Nat → Nat} : ∀ {n : Nat}, 0 < sumN n F ↔ ∃ i, i < n ∧ 0 < F i
  | 0 => ⟨fun h => absurd h (Nat.lt_irrefl 0), fun ⟨i, h, _⟩ => absurd h (Nat.not_lt_zero i)⟩
  | n + 1 => by
    rw [sumN]
    constructor
    · intro h
      by_cases c : 0 < F n
      · exact ⟨n, by omega, c⟩
      · obtain ⟨i, h1, h2⟩ := (sumN_pos (n := n) (F := F)).mp (by omega)
        exact ⟨i, by omega, h2⟩
    · rintro ⟨i, h1, h2⟩
      by_cases e : i = n
      · subst e; omega
      · have := (sumN_pos (n := n) (F := F)).mpr ⟨i, by omega, h2⟩
        omega
theorem sumN_le {F G : Nat → Nat} : ∀ {n : Nat}, (∀ i, i < n → F i ≤ G i) → sumN n F ≤ sumN n G
  | 0, _ => Nat.le_refl _
  | n + 1, h => by
    have a := sumN_le (n := n) (fun i hi => h i (by omega))
    have b := h n (by omega)
    rw [sumN, sumN]; omega
theorem sumN_ext {F : Nat → Nat} {n m : Nat} (h : n ≤ m) (h0 : ∀ i, n ≤ i → i < m → F i = 0) : sumN m F = sumN n F := by
  induction m with
  | zero => rw [show n = 0 by omega]
  | succ m ih =>
    by_cases e : n = m + 1
    · rw [e]
    · rw [sumN, ih (by omega) (fun i h1 h2 => h0 i h1 (by omega)), h0 m (by omega) (by omega), Nat.add_zero]
/-! SHIFTS: how many cost just k, with w more each -/
def sh (G : Nat → Nat) (w k : Nat) : Nat := if w ≤ k then G (k - w) else 0
theorem sh_0 (G : Nat → Nat) (k : Nat) : sh G 0 k = G k := by rw [sh, if_pos (Nat.zero_le _), Nat.sub_zero]
theorem sh_sh (G : Nat → Nat) (u w k : Nat) : sh (sh G u) w k = sh G (u + w) k := by
  unfold sh
  by_cases h : w ≤ k
  · rw [if_pos h]
    by_cases h2 : u ≤ k - w
    · rw [if_pos h2, if_pos (by omega)]; congr 1; omega
    · rw [if_neg h2, if_neg (by omega)]
  · rw [if_neg h, if_neg (by omega)]
theorem sh_cong {G H : Nat → Nat} (h : ∀ k, G k = H k) (w k : Nat) : sh G w k = sh H w k := by
  unfold sh; split
  · exact h _
  · rfl
theorem sh_z {G : Nat → Nat} (h : ∀ k, G k = 0) (w k : Nat) : sh G w k = 0 := by
  unfold sh; split
  · exact h _
  · rfl
theorem sh_add (G H : Nat → Nat) (w k : Nat) : sh (fun k => G k + H k) w k = sh G w k + sh H w k := by
  unfold sh; split <;> rfl
theorem sh_mul (c : Nat) (G : Nat → Nat) (w k : Nat) : sh (fun k => c * G k) w k = c * sh G w k := by
  unfold sh; split <;> rfl
theorem sh_sum (F : Nat → Nat → Nat) (w k : Nat) : ∀ n : Nat, sh (fun k => sumN n (fun i => F i k)) w k = sumN n (fun i => sh (F i) w k)
  | 0 => by unfold sh; split <;> rfl
  | n + 1 => by
    show sh (fun k => sumN n (fun i => F i k) + F n k) w k = _
    rw [sh_add, sh_sum F w k n]; rfl
/-! MASKS -/
theorem sub_iff {c S : Nat} : c &&& S = c ↔ ∀ i, c.testBit i = true → S.testBit i = true := by
  constructor
  · intro h i hi
    have := congrArg (fun x => Nat.testBit x i) h
    simp only [Nat.testBit_and] at this
    rw [hi] at this; simpa using this
  · intro h
    apply Nat.eq_of_testBit_eq
    intro i
    rw [Nat.testBit_and]
    cases e : c.testBit i with
    | false => rfl
    | true => rw [h i e]; rfl
theorem sub_1 {p S : Nat} : 2 ^ p &&& S = 2 ^ p ↔ S.testBit p = true := by
  rw [sub_iff]
  constructor
  · intro h; exact h p (Nat.testBit_two_pow_self)
  · intro h i hi
    rw [Nat.testBit_two_pow] at hi
    have : p = i := by simpa using hi
    rw [← this]; exact h
theorem sub_2 {p q S : Nat} : (2 ^ p ||| 2 ^ q) &&& S = 2 ^ p ||| 2 ^ q ↔ S.testBit p = true ∧ S.testBit q = true := by
  rw [sub_iff]
  constructor
  · intro h
    exact ⟨h p (by rw [Nat.testBit_or, Nat.testBit_two_pow_self]; rfl), h q (by rw [Nat.testBit_or, Nat.testBit_two_pow_self, Bool.or_true])⟩
  · intro h i hi
    rw [Nat.testBit_or, Nat.testBit_two_pow, Nat.testBit_two_pow] at hi
    have : p = i ∨ q = i := by simpa using hi
    rcases this with rfl | rfl
    · exact h.1
    · exact h.2
theorem sub_0 (S : Nat) : 0 &&& S = 0 := Nat.zero_and S
theorem xor_0 (S : Nat) : S ^^^ 0 = S := Nat.xor_zero S
theorem pw_lt {p : Nat} (h : p < 8) : 2 ^ p < 256 := by
  have : p = 0 ∨ p = 1 ∨ p = 2 ∨ p = 3 ∨ p = 4 ∨ p = 5 ∨ p = 6 ∨ p = 7 := by omega
  rcases this with rfl | rfl | rfl | rfl | rfl | rfl | rfl | rfl <;> decide
theorem pw2_lt {p q : Nat} (hp : p < 8) (hq : q < 8) : 2 ^ p ||| 2 ^ q < 256 := Nat.or_lt_two_pow (n := 8) (pw_lt hp) (pw_lt hq)
theorem xr_lt {S c : Nat} (hS : S < 256) (hc : c < 256) : S ^^^ c < 256 := Nat.xor_lt_two_pow (n := 8) hS hc
theorem tb_big {S i : Nat} (hS : S < 256) (hi : 8 ≤ i) : S.testBit i = false := Nat.testBit_lt_two_pow (Nat.lt_of_lt_of_le hS (Nat.pow_le_pow_right (n := 2) (by decide) hi))
theorem m_ext {a b : Nat} (ha : a < 256) (hb : b < 256) (h : ∀ i, i < 8 → a.testBit i = b.testBit i) : a = b := by
  apply Nat.eq_of_testBit_eq
  intro i
  by_cases hi : i < 8
  · exact h i hi
  · rw [tb_big ha (by omega), tb_big hb (by omega)]
theorem pw_inj {p q : Nat} (h : 2 ^ p = 2 ^ q) : p = q := by
  have := congrArg (fun x => Nat.testBit x p) h
  simp only [Nat.testBit_two_pow_self, Nat.testBit_two_pow] at this
  have : q = p := by simpa using this.symm
  exact this.symm
/-! WAYS: how many ways there are to give just the parts S to the actors below a at the cost k; mu a c: may a have just c; w: what that costs -/
def Cm (mu w : Nat → Nat → Nat) : Nat → Nat → Nat → Nat
  | 0, S, k => if S = 0 ∧ k = 0 then 1 else 0
  | a + 1, S, k => sumN 256 (fun c => if c &&& S = c then mu a c * sh (Cm mu w a (S ^^^ c)) (w a c) k else 0)
def wm (wt : Nat → Nat → Nat) (a c : Nat) : Nat := sumN 8 (fun p => if c.testBit p = true then wt a p else 0)
theorem wm_0 (wt : Nat → Nat → Nat) (a : Nat) : wm wt a 0 = 0 := sumN_0 (fun i _ => by simp)
theorem wm_1 (wt : Nat → Nat → Nat) (a : Nat) {p : Nat} (hp : p < 8) : wm wt a (2 ^ p) = wt a p := by
  rw [wm, ← sumN_one (F := wt a) (i0 := p) hp]
  refine sumN_cong fun i _ => ?_
  rw [Nat.testBit_two_pow]
  by_cases e : i = p
  · subst e; simp
  · rw [if_neg (by simp; omega), if_neg e]
theorem wm_2 (wt : Nat → Nat → Nat) (a : Nat) {p q : Nat} (hp : p < 8) (hq : q < 8) (hpq : p ≠ q) : wm wt a (2 ^ p ||| 2 ^ q) = wt a p + wt a q := by
  rw [wm, ← sumN_one (F := wt a) (i0 := p) hp, ← sumN_one (F := wt a) (i0 := q) hq, ← sumN_add]
  refine sumN_cong fun i _ => ?_
  rw [Nat.testBit_or, Nat.testBit_two_pow, Nat.testBit_two_pow]
  by_cases e : i = p
  · subst e; rw [if_pos (by simp), if_pos rfl, if_neg hpq, Nat.add_zero]
  · by_cases e2 : i = q
    · subst e2; rw [if_pos (by simp), if_neg e, if_pos rfl, Nat.zero_add]
    · rw [if_neg (by simp; omega), if_neg e, if_neg e2]
def muOf (sg : Nat → Nat → Bool) (pr : Nat → Nat → Nat → Bool) (a c : Nat) : Nat := (if c = 0 then 1 else 0) + sumN 8 (fun p => if sg a p = true ∧ c = 2 ^ p then 1 else 0) + sumN 8 (fun p => sumN 8 (fun q => if (q < p ∧ pr a p q = true) ∧ c = 2 ^ p ||| 2 ^ q then 1 else 0))
theorem sum_pt {P : Prop} [Decidable P] {c0 N : Nat} (h : c0 < N) (X : Nat → Nat) : sumN N (fun c => (if P ∧ c = c0 then 1 else 0) * X c) = if P then X c0 else 0 := by
  by_cases hp : P
  · rw [if_pos hp, ← sumN_one (F := X) h]
    refine sumN_cong fun i _ => ?_
    by_cases e : i = c0
    · rw [if_pos ⟨hp, e⟩, if_pos e, Nat.one_mul]
    · rw [if_neg (fun q => e q.2), if_neg e, Nat.zero_mul]
  · rw [if_neg hp]
    exact sumN_0 fun i _ => by rw [if_neg (fun q => hp q.1), Nat.zero_mul]
theorem sum_mul_r (F : Nat → Nat) (x n : Nat) : sumN n F * x = sumN n (fun i => F i * x) := by
  induction n with
  | zero => exact Nat.zero_mul x
  | succ n ih => rw [sumN, sumN, Nat.add_mul, ih]
/-- a sum over all that an actor may have -/
theorem mu_sum (sg : Nat → Nat → Bool) (pr : Nat → Nat → Nat → Bool) (a : Nat) (X : Nat → Nat) : sumN 256 (fun c => muOf sg pr a c * X c) = X 0 + sumN 8 (fun p => if sg a p = true then X (2 ^ p) else 0) + sumN 8 (fun p => sumN 8 (fun q => if q < p ∧ pr a p q = true then X (2 ^ p ||| 2 ^ q) else 0)) := by
  have e : ∀ c, muOf sg pr a c * X c = (if True ∧ c = 0 then 1 else 0) * X c + sumN 8 (fun p => (if sg a p = true ∧ c = 2 ^ p then 1 else 0) * X c) + sumN 8 (fun p => sumN 8 (fun q => (if (q < p ∧ pr a p q = true) ∧ c = 2 ^ p ||| 2 ^ q then 1 else 0) * X c)) := by
    intro c
    rw [muOf, Nat.add_mul, Nat.add_mul, sum_mul_r, sum_mul_r]
    congr 1
    · congr 1
      simp
    · refine sumN_cong fun p _ => ?_
      rw [sum_mul_r]
  rw [sumN_cong (fun c _ => e c), sumN_add, sumN_add]
  congr 1
  · congr 1
    · rw [sum_pt (by decide)]; rfl
    · rw [sumN_swap]
      refine sumN_cong fun p hp => ?_
      rw [sum_pt (pw_lt hp)]
  · rw [sumN_swap]
    refine sumN_cong fun p hp => ?_
    rw [sumN_swap]
    refine sumN_cong fun q hq => ?_
    rw [sum_pt (pw2_lt hp hq)]
theorem Cm_step (sg : Nat → Nat → Bool) (pr : Nat → Nat → Nat → Bool) (wt : Nat → Nat → Nat) (a S k : Nat) : Cm (muOf sg pr) (wm wt) (a + 1) S k = Cm (muOf sg pr) (wm wt) a S k + sumN 8 (fun p => if sg a p = true ∧ S.testBit p = true then sh (Cm (muOf sg pr) (wm wt) a (S ^^^ 2 ^ p)) (wt a p) k else 0) + sumN 8 (fun p => sumN 8 (fun q => if (q < p ∧ pr a p q = true) ∧ S.testBit p = true ∧ S.testBit q = true then sh (Cm (muOf sg pr) (wm wt) a (S ^^^ (2 ^ p ||| 2 ^ q))) (wt a p + wt a q) k else 0)) := by
  rw [Cm]
  have e : ∀ c, (if c &&& S = c then muOf sg pr a c * sh (Cm (muOf sg pr) (wm wt) a (S ^^^ c)) (wm wt a c) k else 0) = muOf sg pr a c * (if c &&& S = c then sh (Cm (muOf sg pr) (wm wt) a (S ^^^ c)) (wm wt a c) k else 0) := by
    intro c; split
    · rfl
    · rw [Nat.mul_zero]
  rw [sumN_cong (fun c _ => e c), mu_sum]
  congr 1
  · congr 1
    · rw [if_pos (sub_0 S), xor_0, wm_0, sh_0]
    · refine sumN_cong fun p hp => ?_
      by_cases h1 : sg a p = true
      · rw [if_pos h1]
        by_cases h2 : S.testBit p = true
        · rw [if_pos (sub_1.mpr h2), if_pos ⟨h1, h2⟩, wm_1 wt a hp]
        · rw [if_neg (fun q => h2 (sub_1.mp q)), if_neg (fun q => h2 q.2)]
      · rw [if_neg h1, if_neg (fun q => h1 q.1)]
  · refine sumN_cong fun p hp => sumN_cong fun q hq => ?_
    by_cases h1 : q < p ∧ pr a p q = true
    · rw [if_pos h1]
      by_cases h2 : S.testBit p = true ∧ S.testBit q = true
      · rw [if_pos (sub_2.mpr h2), if_pos ⟨h1, h2⟩, wm_2 wt a hp hq (by omega)]
      · rw [if_neg (fun q => h2 (sub_2.mp q)), if_neg (fun q => h2 q.2)]
    · rw [if_neg h1, if_neg (fun q => h1 q.1)]
