/-! which parts can be given at all: in any order of the actors -/
def RS (mu : Nat → Nat → Nat) : Nat → Nat → Prop
  | 0, S => S = 0
  | a + 1, S => ∃ c, c < 256 ∧ c &&& S = c ∧ 0 < mu a c ∧ RS mu a (S ^^^ c)
theorem RS_exg {mu : Nat → Nat → Nat} : ∀ (a S : Nat), RS mu a S ↔ ∃ g, Exg mu a S g
  | 0, S => ⟨fun h => ⟨fun _ => 0, h⟩, fun ⟨_, h⟩ => h⟩
  | a + 1, S => by
    constructor
    · rintro ⟨c, c1, c2, c3, c4⟩
      obtain ⟨g, hg⟩ := (RS_exg a _).mp c4
      refine ⟨fun p => if c.testBit p = true then a else g p, c, c1, c2, c3, fun p hp => ?_, hg.cong fun p hp hS => ?_⟩
      · constructor
        · intro q; exact ⟨sub_iff.mp c2 p q, if_pos q⟩
        · rintro ⟨q1, q2⟩
          by_cases q : c.testBit p = true
          · exact q
          · have q2 : (if c.testBit p = true then a else g p) = a := q2
            rw [if_neg q] at q2
            have := hg.lt p hp ((xr_tb c2).mpr ⟨q1, by simpa using q⟩)
            omega
      · rw [if_neg (by rw [((xr_tb c2).mp hS).2]; decide)]
    · rintro ⟨g, c, c1, c2, c3, -, c5⟩
      exact ⟨c, c1, c2, c3, (RS_exg a _).mpr ⟨g, c5⟩⟩
theorem RS.cong {mu mu' : Nat → Nat → Nat} : ∀ {a S : Nat}, (∀ b, b < a → ∀ c, 0 < mu b c → 0 < mu' b c) → RS mu a S → RS mu' a S
  | 0, _, _, h => h
  | _ + 1, _, e, ⟨c, c1, c2, c3, c4⟩ => ⟨c, c1, c2, e _ (Nat.lt_succ_self _) c c3, c4.cong fun b hb => e b (Nat.lt_succ_of_lt hb)⟩
/-- more actors lose nothing -/
theorem RS.up {mu : Nat → Nat → Nat} (z : ∀ b, 0 < mu b 0) {S : Nat} : ∀ {a n : Nat}, a ≤ n → RS mu a S → RS mu n S := by
  intro a n h x
  induction n with
  | zero => rw [show a = 0 by omega] at x; exact x
  | succ n ih =>
    by_cases e : a = n + 1
    · subst e; exact x
    · exact ⟨0, by decide, Nat.zero_and S, z n, by rw [Nat.xor_zero]; exact ih (by omega)⟩
theorem xr_rc (a b c : Nat) : a ^^^ b ^^^ c = a ^^^ c ^^^ b := by rw [Nat.xor_assoc, Nat.xor_comm b c, ← Nat.xor_assoc]
theorem xr_sub1 {c e S : Nat} (h1 : e &&& S = e) (h2 : c &&& (S ^^^ e) = c) : c &&& S = c ∧ e &&& (S ^^^ c) = e := by
  constructor
  · rw [sub_iff]; intro i hi
    exact ((xr_tb h1).mp (sub_iff.mp h2 i hi)).1
  · have hc : c &&& S = c := by
      rw [sub_iff]; intro i hi
      exact ((xr_tb h1).mp (sub_iff.mp h2 i hi)).1
    rw [sub_iff]; intro i hi
    rw [xr_tb hc]
    refine ⟨sub_iff.mp h1 i hi, ?_⟩
    cases q : c.testBit i with
    | false => rfl
    | true =>
      have := ((xr_tb h1).mp (sub_iff.mp h2 i q)).2
      rw [hi] at this; cases this
/-- an actor taken out: mu' is mu without a -/
theorem RS_out {mu mu' : Nat → Nat → Nat} {a : Nat} (h1 : ∀ b, b ≠ a → ∀ c, mu' b c = mu b c) (h2 : ∀ c, 0 < mu' a c ↔ c = 0) : ∀ (n S : Nat), a < n → (RS mu n S ↔ ∃ c, c < 256 ∧ c &&& S = c ∧ 0 < mu a c ∧ RS mu' n (S ^^^ c))
  | 0, S, h => absurd h (Nat.not_lt_zero a)
  | n + 1, S, h => by
    by_cases e : a = n
    · subst e
      constructor
      · rintro ⟨c, c1, c2, c3, c4⟩
        refine ⟨c, c1, c2, c3, 0, by decide, Nat.zero_and _, (h2 0).mpr rfl, ?_⟩
        rw [Nat.xor_zero]
        exact c4.cong fun b hb c q => by rw [h1 b (by omega)]; exact q
      · rintro ⟨c, c1, c2, c3, c', -, -, c6, c7⟩
        have := (h2 c').mp c6
        subst this
        rw [Nat.xor_zero] at c7
        exact ⟨c, c1, c2, c3, c7.cong fun b hb c q => by rw [← h1 b (by omega)]; exact q⟩
    · constructor
      · rintro ⟨c, c1, c2, c3, c4⟩
        obtain ⟨e', e1, e2, e3, e4⟩ := (RS_out h1 h2 n _ (by omega)).mp c4
        obtain ⟨s1, s2⟩ := xr_sub1 c2 e2
        refine ⟨e', e1, s1, e3, c, c1, s2, by rw [h1 n (by omega)]; exact c3, ?_⟩
        rw [xr_rc] at e4
        exact e4
      · rintro ⟨c, c1, c2, c3, e', e1, e2, e3, e4⟩
        obtain ⟨s1, s2⟩ := xr_sub1 c2 e2
        refine ⟨e', e1, s1, by rw [← h1 n (by omega)]; exact e3, (RS_out h1 h2 n _ (by omega)).mpr ⟨c, c1, s2, c3, ?_⟩⟩
        rw [xr_rc]; exact e4
theorem mu_pos {sg : Nat → Nat → Bool} {pr : Nat → Nat → Nat → Bool} {a c : Nat} : 0 < muOf sg pr a c ↔ c = 0 ∨ (∃ p, p < 8 ∧ sg a p = true ∧ c = 2 ^ p) ∨ ∃ p, p < 8 ∧ ∃ q, q < p ∧ pr a p q = true ∧ c = 2 ^ p ||| 2 ^ q := by
  have e : 0 < muOf sg pr a c ↔ 0 < (if c = 0 then 1 else 0) ∨ 0 < sumN 8 (fun p => if sg a p = true ∧ c = 2 ^ p then 1 else 0) ∨ 0 < sumN 8 (fun p => sumN 8 (fun q => if (q < p ∧ pr a p q = true) ∧ c = 2 ^ p ||| 2 ^ q then 1 else 0)) := by unfold muOf; omega
  rw [e, sumN_pos, sumN_pos]
  constructor
  · rintro (x | ⟨p, hp, x⟩ | ⟨p, hp, x⟩)
    · refine Or.inl ?_
      apply Classical.byContradiction; intro z; rw [if_neg z] at x; exact absurd x (Nat.lt_irrefl 0)
    · refine Or.inr (Or.inl ⟨p, hp, ?_⟩)
      apply Classical.byContradiction; intro z; rw [if_neg z] at x; exact absurd x (Nat.lt_irrefl 0)
    · rw [sumN_pos] at x
      obtain ⟨q, hq, x⟩ := x
      by_cases z : (q < p ∧ pr a p q = true) ∧ c = 2 ^ p ||| 2 ^ q
      · exact Or.inr (Or.inr ⟨p, hp, q, z.1.1, z.1.2, z.2⟩)
      · rw [if_neg z] at x; exact absurd x (Nat.lt_irrefl 0)
  · rintro (x | ⟨p, hp, x⟩ | ⟨p, hp, q, h1, h2, h3⟩)
    · exact Or.inl (by rw [if_pos x]; decide)
    · exact Or.inr (Or.inl ⟨p, hp, by rw [if_pos x]; decide⟩)
    · refine Or.inr (Or.inr ⟨p, hp, ?_⟩)
      rw [sumN_pos]
      exact ⟨q, by omega, by rw [if_pos ⟨⟨h1, h2⟩, h3⟩]; decide⟩
/-- what one actor adds -/
def StP (sg : Nat → Bool) (pr : Nat → Nat → Bool) (X : Nat → Prop) (S : Nat) : Prop := X S ∨ (∃ p, p < 8 ∧ sg p = true ∧ S.testBit p = true ∧ X (S ^^^ 2 ^ p)) ∨ ∃ p, p < 8 ∧ ∃ q, q < p ∧ pr p q = true ∧ S.testBit p = true ∧ S.testBit q = true ∧ X (S ^^^ (2 ^ p ||| 2 ^ q))
theorem mu_st {sg : Nat → Nat → Bool} {pr : Nat → Nat → Nat → Bool} {a S : Nat} {X : Nat → Prop} : (∃ c, c < 256 ∧ c &&& S = c ∧ 0 < muOf sg pr a c ∧ X (S ^^^ c)) ↔ StP (sg a) (pr a) X S := by
  constructor
  · rintro ⟨c, c1, c2, c3, c4⟩
    rcases mu_pos.mp c3 with e | ⟨p, hp, h1, e⟩ | ⟨p, hp, q, h1, h2, e⟩
    · subst e; rw [Nat.xor_zero] at c4; exact Or.inl c4
    · subst e; exact Or.inr (Or.inl ⟨p, hp, h1, sub_1.mp c2, c4⟩)
    · subst e
      obtain ⟨z1, z2⟩ := sub_2.mp c2
      exact Or.inr (Or.inr ⟨p, hp, q, h1, h2, z1, z2, c4⟩)
  · rintro (x | ⟨p, hp, h1, h2, x⟩ | ⟨p, hp, q, h1, h2, h3, h4, x⟩)
    · exact ⟨0, by decide, Nat.zero_and S, mu_pos.mpr (Or.inl rfl), by rw [Nat.xor_zero]; exact x⟩
    · exact ⟨2 ^ p, pw_lt hp, sub_1.mpr h2, mu_pos.mpr (Or.inr (Or.inl ⟨p, hp, h1, rfl⟩)), x⟩
    · exact ⟨2 ^ p ||| 2 ^ q, pw2_lt hp (by omega), sub_2.mpr ⟨h3, h4⟩, mu_pos.mpr (Or.inr (Or.inr ⟨p, hp, q, h1, h2, rfl⟩)), x⟩
theorem RS_step {sg : Nat → Nat → Bool} {pr : Nat → Nat → Nat → Bool} {a S : Nat} : RS (muOf sg pr) (a + 1) S ↔ StP (sg a) (pr a) (RS (muOf sg pr) a) S := mu_st
