/-! what one actor can take, case by case -/
theorem p2_all : (List.range 8).all (fun p => (List.range p).all (fun q => decide (¬ 2 ^ p ||| 2 ^ q = 0) && (List.range 8).all (fun r => decide (¬ 2 ^ p ||| 2 ^ q = 2 ^ r) && (List.range r).all (fun s => decide (2 ^ p ||| 2 ^ q = 2 ^ r ||| 2 ^ s → p = r ∧ q = s))))) = true := by decide +kernel
theorem p2_fact {p q : Nat} (hp : p < 8) (hq : q < p) : ¬ 2 ^ p ||| 2 ^ q = 0 ∧ (∀ r, r < 8 → ¬ 2 ^ p ||| 2 ^ q = 2 ^ r) ∧ ∀ r s, r < 8 → s < r → 2 ^ p ||| 2 ^ q = 2 ^ r ||| 2 ^ s → p = r ∧ q = s := by
  have h1 := List.all_eq_true.mp p2_all p (List.mem_range.mpr hp)
  have h2 := List.all_eq_true.mp h1 q (List.mem_range.mpr hq)
  rw [Bool.and_eq_true] at h2
  refine ⟨of_decide_eq_true h2.1, fun r hr => ?_, fun r s hr hs => ?_⟩
  · have h3 := List.all_eq_true.mp h2.2 r (List.mem_range.mpr hr)
    rw [Bool.and_eq_true] at h3
    exact of_decide_eq_true h3.1
  · have h3 := List.all_eq_true.mp h2.2 r (List.mem_range.mpr hr)
    rw [Bool.and_eq_true] at h3
    exact of_decide_eq_true (List.all_eq_true.mp h3.2 s (List.mem_range.mpr hs))
theorem p2_inj {p q : Nat} (h : 2 ^ p = 2 ^ q) : p = q := (Nat.pow_right_inj (by decide : 1 < 2)).mp h
section MV
variable (sg : Nat → Nat → Bool) (pr : Nat → Nat → Nat → Bool) (a : Nat)
theorem mv_0 : muOf sg pr a 0 = 1 := by
  unfold muOf
  rw [if_pos rfl, sumN_0 (fun p _ => if_neg (fun q => absurd q.2.symm (Nat.ne_of_gt (Nat.two_pow_pos p)))), sumN_0 (fun p hp => sumN_0 (fun q _ => if_neg (fun z => (p2_fact hp z.1.1).1 z.2.symm)))]
theorem mv_1 {r : Nat} (hr : r < 8) : muOf sg pr a (2 ^ r) = if sg a r = true then 1 else 0 := by
  unfold muOf
  rw [if_neg (Nat.ne_of_gt (Nat.two_pow_pos r)), sumN_0 (n := 8) (F := fun p => sumN 8 (fun q => if (q < p ∧ pr a p q = true) ∧ 2 ^ r = 2 ^ p ||| 2 ^ q then 1 else 0)) (fun p hp => sumN_0 (fun q _ => if_neg (fun z => (p2_fact hp z.1.1).2.1 r hr z.2.symm))), Nat.zero_add, Nat.add_zero]
  rw [sumN_cong (G := fun p => if p = r then (fun p => if sg a p = true then 1 else 0) p else 0) (fun p _ => ?_), sumN_one hr]
  by_cases e : p = r
  · subst e; simp
  · rw [if_neg (fun z => e (p2_inj z.2).symm), if_neg e]
theorem mv_2 {p q : Nat} (hp : p < 8) (hq : q < p) : muOf sg pr a (2 ^ p ||| 2 ^ q) = if pr a p q = true then 1 else 0 := by
  obtain ⟨f1, f2, f3⟩ := p2_fact hp hq
  unfold muOf
  rw [if_neg f1, sumN_0 (n := 8) (F := fun r => if sg a r = true ∧ 2 ^ p ||| 2 ^ q = 2 ^ r then 1 else 0) (fun r hr => if_neg (fun z => f2 r hr z.2)), Nat.zero_add]
  rw [sumN_cong (G := fun r => if r = p then (fun _ => if pr a p q = true then 1 else 0) r else 0) (fun r hr => ?_), sumN_one hp]
  by_cases e : r = p
  · subst e
    rw [if_pos rfl, sumN_cong (G := fun s => if s = q then (fun _ => if pr a r q = true then 1 else 0) s else 0) (fun s hs => ?_), sumN_one (by omega)]
    by_cases e2 : s = q
    · subst e2; simp [hq]
    · rw [if_neg (fun z => e2 (f3 r s hr z.1.1 z.2).2.symm), if_neg e2]
  · rw [if_neg e]
    exact sumN_0 fun s _ => if_neg fun z => e (f3 r s hr z.1.1 z.2).1.symm
theorem mv_n {c : Nat} (h0 : c ≠ 0) (h1 : ∀ r, r < 8 → c ≠ 2 ^ r) (h2 : ∀ p q, p < 8 → q < p → c ≠ 2 ^ p ||| 2 ^ q) : muOf sg pr a c = 0 := by
  unfold muOf
  rw [if_neg h0, sumN_0 (fun r hr => if_neg (fun z => h1 r hr z.2)), sumN_0 (fun p hp => sumN_0 (fun q _ => if_neg (fun z => h2 p q hp z.1.1 z.2)))]
/-- none, one, two, or more -/
theorem mv_c (c : Nat) : c = 0 ∨ (∃ r, r < 8 ∧ c = 2 ^ r) ∨ (∃ p q, p < 8 ∧ q < p ∧ c = 2 ^ p ||| 2 ^ q) ∨ (c ≠ 0 ∧ (∀ r, r < 8 → c ≠ 2 ^ r) ∧ ∀ p q, p < 8 → q < p → c ≠ 2 ^ p ||| 2 ^ q) := by
  by_cases h0 : c = 0
  · exact Or.inl h0
  by_cases h1 : ∃ r, r < 8 ∧ c = 2 ^ r
  · exact Or.inr (Or.inl h1)
  by_cases h2 : ∃ p q, p < 8 ∧ q < p ∧ c = 2 ^ p ||| 2 ^ q
  · exact Or.inr (Or.inr (Or.inl h2))
  · exact Or.inr (Or.inr (Or.inr ⟨h0, fun r hr e => h1 ⟨r, hr, e⟩, fun p q hp hq e => h2 ⟨p, q, hp, hq, e⟩⟩))
/-- how many bits a mask has tells its kind -/
theorem mv_pc : (List.range 256).all (fun c => decide (pcN c = 0 → c = 0) && decide (pcN c = 1 → (List.range 8).any (fun r => c == 2 ^ r) = true) && decide (pcN c = 2 → (List.range 8).any (fun p => (List.range p).any (fun q => c == 2 ^ p ||| 2 ^ q)) = true)) = true := by decide +kernel
theorem pc_p2 : (List.range 8).all (fun p => decide (pcN (2 ^ p) = 1) && (List.range p).all (fun q => decide (pcN (2 ^ p ||| 2 ^ q) = 2))) = true := by decide +kernel
theorem pc_1 {r : Nat} (hr : r < 8) : pcN (2 ^ r) = 1 := by
  have := List.all_eq_true.mp pc_p2 r (List.mem_range.mpr hr)
  rw [Bool.and_eq_true] at this
  exact of_decide_eq_true this.1
theorem pc_2 {p q : Nat} (hp : p < 8) (hq : q < p) : pcN (2 ^ p ||| 2 ^ q) = 2 := by
  have := List.all_eq_true.mp pc_p2 p (List.mem_range.mpr hp)
  rw [Bool.and_eq_true] at this
  exact of_decide_eq_true (List.all_eq_true.mp this.2 q (List.mem_range.mpr hq))
theorem pc_0 : pcN 0 = 0 := by decide +kernel
theorem mv_3 {c : Nat} (h : 3 ≤ pcN c) : muOf sg pr a c = 0 := by
  refine mv_n sg pr a (fun e => ?_) (fun r hr e => ?_) (fun p q hp hq e => ?_)
  · rw [e, pc_0] at h; omega
  · rw [e, pc_1 hr] at h; omega
  · rw [e, pc_2 hp hq] at h; omega
end MV
