/-! how many ways there can be -/
def pcN (S : Nat) : Nat := sumN 8 (fun p => if S.testBit p = true then 1 else 0)
def ppN (S : Nat) : Nat := sumN 8 (fun p => sumN 8 (fun q => if q < p ∧ S.testBit p = true ∧ S.testBit q = true then 1 else 0))
theorem pc_all : (List.range 256).all (fun S => decide (pcN S ≤ 8) && decide (2 * ppN S = pcN S * (pcN S - 1)) && (List.range 8).all (fun p => !S.testBit p || decide (pcN (S ^^^ 2 ^ p) + 1 = pcN S))) = true := by decide +kernel
theorem pc_le {S : Nat} (h : S < 256) : pcN S ≤ 8 := by
  have := List.all_eq_true.mp pc_all S (List.mem_range.mpr h)
  simp only [Bool.and_eq_true, decide_eq_true_eq] at this
  exact this.1.1
theorem pp_pc {S : Nat} (h : S < 256) : 2 * ppN S = pcN S * (pcN S - 1) := by
  have := List.all_eq_true.mp pc_all S (List.mem_range.mpr h)
  simp only [Bool.and_eq_true, decide_eq_true_eq] at this
  exact this.1.2
theorem pc_x {S p : Nat} (h : S < 256) (hp : p < 8) (hS : S.testBit p = true) : pcN (S ^^^ 2 ^ p) + 1 = pcN S := by
  have := List.all_eq_true.mp pc_all S (List.mem_range.mpr h)
  simp only [Bool.and_eq_true, decide_eq_true_eq] at this
  have := List.all_eq_true.mp this.2 p (List.mem_range.mpr hp)
  rw [hS] at this
  simpa using this
theorem pc_x2 {S p q : Nat} (h : S < 256) (hp : p < 8) (hq : q < 8) (hpq : q ≠ p) (hS : S.testBit p = true) (hS2 : S.testBit q = true) : pcN (S ^^^ (2 ^ p ||| 2 ^ q)) + 2 = pcN S := by
  have e : S ^^^ (2 ^ p ||| 2 ^ q) = (S ^^^ 2 ^ p) ^^^ 2 ^ q := by
    refine Nat.eq_of_testBit_eq fun i => ?_
    simp only [Nat.testBit_xor, Nat.testBit_or, Nat.testBit_two_pow]
    by_cases e1 : p = i
    · have : ¬ q = i := by omega
      simp [e1, this]
    · simp [e1]
  have a := pc_x h hp hS
  have b := pc_x (S := S ^^^ 2 ^ p) (p := q) (xr_lt h (pw_lt hp)) hq (by rw [Nat.testBit_xor, hS2, Nat.testBit_two_pow]; simp; omega)
  rw [e]; omega
theorem binom_all : (List.range 9).all (fun s => (List.range 10).all (fun B => decide (2 * (B ^ s + s * B ^ (s - 1)) + s * (s - 1) * B ^ (s - 2) ≤ 2 * (B + 1) ^ s))) = true := by decide +kernel
theorem binom {s B : Nat} (hs : s ≤ 8) (hB : B ≤ 9) : 2 * (B ^ s + s * B ^ (s - 1)) + s * (s - 1) * B ^ (s - 2) ≤ 2 * (B + 1) ^ s := by
  have := List.all_eq_true.mp binom_all s (List.mem_range.mpr (by omega))
  have := List.all_eq_true.mp this B (List.mem_range.mpr (by omega))
  simpa using this
theorem Cm_le0 {mu w : Nat → Nat → Nat} : ∀ (a S k : Nat), Cm mu w a S k ≤ Cm mu (fun _ _ => 0) a S 0
  | 0, S, k => by
    rw [Cm, Cm]
    by_cases h : S = 0
    · rw [if_pos (c := S = 0 ∧ 0 = 0) ⟨h, rfl⟩]; split <;> omega
    · rw [if_neg (fun q => h q.1)]; exact Nat.zero_le _
  | a + 1, S, k => by
    rw [Cm, Cm]
    refine sumN_le fun c _ => ?_
    split
    · refine Nat.mul_le_mul_left _ ?_
      rw [sh_0]
      unfold sh
      split
      · exact Cm_le0 a _ _
      · exact Nat.zero_le _
    · exact Nat.le_refl _
theorem Cm_bd0 (sg : Nat → Nat → Bool) (pr : Nat → Nat → Nat → Bool) : ∀ (a S : Nat), a ≤ 8 → S < 256 → Cm (muOf sg pr) (wm (fun _ _ => 0)) a S 0 ≤ (a + 1) ^ pcN S
  | 0, S, _, _ => by
    rw [Cm, Nat.one_pow]
    split <;> omega
  | a + 1, S, ha, hS => by
    rw [Cm_step]
    have h0 := Cm_bd0 sg pr a S (by omega) hS
    have h1 : sumN 8 (fun p => if sg a p = true ∧ S.testBit p = true then sh (Cm (muOf sg pr) (wm (fun _ _ => 0)) a (S ^^^ 2 ^ p)) 0 0 else 0) ≤ pcN S * (a + 1) ^ (pcN S - 1) := by
      rw [pcN, sum_mul_r]
      refine sumN_le fun p hp => ?_
      by_cases q : S.testBit p = true
      · rw [if_pos q, Nat.one_mul]
        split
        · rw [sh_0]
          have := Cm_bd0 sg pr a (S ^^^ 2 ^ p) (by omega) (xr_lt hS (pw_lt hp))
          rw [show pcN (S ^^^ 2 ^ p) = pcN S - 1 by have := pc_x hS hp q; omega] at this
          exact this
        · exact Nat.zero_le _
      · rw [if_neg (fun x => q x.2)]; exact Nat.zero_le _
    have h2 : sumN 8 (fun p => sumN 8 (fun q => if (q < p ∧ pr a p q = true) ∧ S.testBit p = true ∧ S.testBit q = true then sh (Cm (muOf sg pr) (wm (fun _ _ => 0)) a (S ^^^ (2 ^ p ||| 2 ^ q))) (0 + 0) 0 else 0)) ≤ ppN S * (a + 1) ^ (pcN S - 2) := by
      rw [ppN, sum_mul_r]
      refine sumN_le fun p hp => ?_
      rw [sum_mul_r]
      refine sumN_le fun q hq => ?_
      by_cases c : q < p ∧ S.testBit p = true ∧ S.testBit q = true
      · rw [if_pos c, Nat.one_mul]
        split
        · rw [sh_0]
          have := Cm_bd0 sg pr a (S ^^^ (2 ^ p ||| 2 ^ q)) (by omega) (xr_lt hS (pw2_lt hp hq))
          rw [show pcN (S ^^^ (2 ^ p ||| 2 ^ q)) = pcN S - 2 by have := pc_x2 hS hp hq (by omega) c.2.1 c.2.2; omega] at this
          exact this
        · exact Nat.zero_le _
      · rw [if_neg (fun x => c ⟨x.1.1, x.2⟩)]; exact Nat.zero_le _
    have h3 := binom (pc_le hS) (show a + 1 ≤ 9 by omega)
    have h4 := pp_pc hS
    have h5 : 2 * (ppN S * (a + 1) ^ (pcN S - 2)) = pcN S * (pcN S - 1) * (a + 1) ^ (pcN S - 2) := by rw [← h4, Nat.mul_assoc]
    omega
theorem wm_z (a c : Nat) : wm (fun _ _ => 0) a c = 0 := sumN_0 fun p _ => by split <;> rfl
theorem Cm_bd (sg : Nat → Nat → Bool) (pr : Nat → Nat → Nat → Bool) (w : Nat → Nat → Nat) {a S : Nat} (k : Nat) (ha : a ≤ 8) (hS : S < 256) : Cm (muOf sg pr) w a S k ≤ 43046721 := by
  have h1 := Cm_le0 (mu := muOf sg pr) (w := w) a S k
  have h2 := Cm_bd0 sg pr a S ha hS
  rw [Cm_cong (mu := muOf sg pr) (mu' := muOf sg pr) (w := wm (fun _ _ => 0)) (w' := fun _ _ => 0) a (fun b _ c _ => ⟨rfl, fun _ => wm_z b c⟩)] at h2
  have h3 : (a + 1) ^ pcN S ≤ 9 ^ 8 := Nat.le_trans (Nat.pow_le_pow_left (by omega) _) (Nat.pow_le_pow_right (by decide) (pc_le hS))
  have h4 : 9 ^ 8 = 43046721 := by decide
  omega
theorem Cm_kle {mu wt : Nat → Nat → Nat} {a S k M : Nat} (hS : S < 256) (hw : ∀ b, b < a → ∀ p, p < 8 → wt b p ≤ M) (h : 0 < Cm mu (wm wt) a S k) : k ≤ 8 * M := by
  obtain ⟨g, g1, g2⟩ := (Cm_pos a S k hS).mp h
  rw [← g2, wg]
  have : sumN 8 (fun p => if S.testBit p = true then wt (g p) p else 0) ≤ sumN 8 (fun _ => M) := sumN_le fun p hp => by
    split
    · rename_i q; exact hw _ (g1.lt p hp q) p hp
    · exact Nat.zero_le _
  have e : sumN 8 (fun _ => M) = 8 * M := by simp only [sumN]; omega
  omega
/-- parts that nobody may have are never given -/
theorem Cm_out {sg : Nat → Nat → Bool} {pr : Nat → Nat → Nat → Bool} {w : Nat → Nat → Nat} {p0 : Nat} (h1 : ∀ a, sg a p0 = false) (h2 : ∀ a q, pr a p0 q = false ∧ pr a q p0 = false) : ∀ (a S k : Nat), S.testBit p0 = true → p0 < 8 → Cm (muOf sg pr) w a S k = 0
  | 0, S, k, hS, _ => by
    rw [Cm, if_neg]
    rintro ⟨rfl, -⟩
    simp at hS
  | a + 1, S, k, hS, hp0 => by
    rw [Cm]
    refine sumN_0 fun c _ => ?_
    split
    · rename_i hc
      by_cases q : c.testBit p0 = true
      · rw [muOf, if_neg (fun e => by rw [e] at q; simp at q), sumN_0, sumN_0, Nat.zero_mul]
        · intro p hp
          refine sumN_0 fun r hr => if_neg ?_
          rintro ⟨⟨_, x1⟩, x2⟩
          rw [x2, Nat.testBit_or, Nat.testBit_two_pow, Nat.testBit_two_pow] at q
          have q : p = p0 ∨ r = p0 := by simpa using q
          rcases q with rfl | rfl
          · rw [(h2 a r).1] at x1; cases x1
          · rw [(h2 a p).2] at x1; cases x1
        · intro p hp
          refine if_neg ?_
          rintro ⟨x1, x2⟩
          rw [x2, Nat.testBit_two_pow] at q
          have q : p = p0 := by simpa using q
          rw [q, h1] at x1; cases x1
      · rw [sh_z (fun k => Cm_out h1 h2 a _ k ((xr_tb hc).mpr ⟨hS, by simpa using q⟩) hp0), Nat.mul_zero]
    · rfl
/-! the sets without some parts, one after the other -/
def nxt (fx s : Nat) : Nat := ((s ||| fx) + 1) &&& (511 ^^^ fx)
def gapB (fx n : Nat) : Nat → Nat → Bool
  | 0, t => t == n
  | f + 1, t => if t == n then true else (t &&& fx != 0) && gapB fx n f (t + 1)
theorem gapB_ok {fx n : Nat} : ∀ {f t : Nat}, gapB fx n f t = true → t ≤ n ∧ ∀ u, t ≤ u → u < n → u &&& fx ≠ 0
  | 0, t, h => by
    have : t = n := by simpa [gapB] using h
    exact ⟨by omega, fun u h1 h2 => by omega⟩
  | f + 1, t, h => by
    rw [gapB] at h
    by_cases e : t = n
    · exact ⟨by omega, fun u h1 h2 => by omega⟩
    · rw [if_neg (by simpa using e)] at h
      have h : (t &&& fx ≠ 0) ∧ gapB fx n f (t + 1) = true := by simpa using h
      obtain ⟨a, b⟩ := gapB_ok h.2
      refine ⟨by omega, fun u h1 h2 => ?_⟩
      by_cases e2 : u = t
      · rw [e2]; exact h.1
      · exact b u (by omega) h2
theorem nxt_all : (List.range 256).all (fun fx => (List.range 256).all (fun s => (s &&& fx != 0) || (decide (s < nxt fx s) && decide (nxt fx s ≤ 256) && (nxt fx s &&& fx == 0) && gapB fx (nxt fx s) 256 (s + 1)))) = true := by decide +kernel
theorem nxt_ok {fx s : Nat} (hf : fx < 256) (hs : s < 256) (hd : s &&& fx = 0) : s < nxt fx s ∧ nxt fx s ≤ 256 ∧ nxt fx s &&& fx = 0 ∧ ∀ u, s < u → u < nxt fx s → u &&& fx ≠ 0 := by
  have := List.all_eq_true.mp nxt_all fx (List.mem_range.mpr hf)
  have := List.all_eq_true.mp this s (List.mem_range.mpr hs)
  rw [hd] at this
  simp only [bne_self_eq_false, Bool.false_or, Bool.and_eq_true, decide_eq_true_eq, beq_iff_eq] at this
  obtain ⟨⟨⟨a, b⟩, c⟩, d⟩ := this
  exact ⟨a, b, c, fun u h1 h2 => (gapB_ok d).2 u h1 h2⟩
