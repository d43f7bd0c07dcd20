/-! the house: what its rows mean -/
abbrev muC (I np : Nat) (cb be : Nat → Nat) : Nat → Nat → Nat := muOf (sgN I cb be (fun _ => 0) (2 ^ np - 1)) (prN I cb be (fun _ => 0) (2 ^ np - 1))
theorem able_tb {cb be : Nat → Nat} {np a p : Nat} (hp : p < 8) : (ableN cb be (fun _ => 0) (2 ^ np - 1) a).testBit p = ((cb a).testBit p && decide (p < np)) := by
  unfold ableN rmN
  rw [if_pos rfl, Nat.testBit_and, Nat.testBit_and, full_tb, c255, decide_eq_true hp, Bool.and_true]
theorem orx {p q : Nat} (h : p ≠ q) : 2 ^ p ||| 2 ^ q = 2 ^ p ^^^ 2 ^ q := by
  refine Nat.eq_of_testBit_eq fun i => ?_
  rw [Nat.testBit_or, Nat.testBit_xor, Nat.testBit_two_pow, Nat.testBit_two_pow]
  by_cases a : p = i
  · rw [decide_eq_true a, decide_eq_false (show ¬ q = i by omega)]; rfl
  · rw [decide_eq_false a]; simp
theorem hp_st {I np a S : Nat} {cb be : Nat → Nat} {X : Nat → Prop} (hn : np ≤ 8) (hi : I.testBit a = false) : HpP (cb a) be np X np S ↔ StP (sgN I cb be (fun _ => 0) (2 ^ np - 1) a) (prN I cb be (fun _ => 0) (2 ^ np - 1) a) X S := by
  have es : ∀ p, p < 8 → (sgN I cb be (fun _ => 0) (2 ^ np - 1) a p = true ↔ (cb a).testBit p = true ∧ p < np) := fun p hp => by
    unfold sgN; rw [hi, able_tb hp]; simp
  have ep : ∀ p q, p < 8 → q < 8 → (prN I cb be (fun _ => 0) (2 ^ np - 1) a p q = true ↔ ((cb a).testBit p = true ∧ p < np) ∧ ((cb a).testBit q = true ∧ q < np) ∧ (be q).testBit p = true) := fun p q hp hq => by
    unfold prN; rw [hi, able_tb hp, able_tb hq]; simp [and_assoc]
  constructor
  · rintro (x | ⟨r, h1, h2, h3, h4 | ⟨q, ⟨q1, q2⟩, ⟨q3, q4⟩, q5, q6⟩⟩)
    · exact Or.inl x
    · exact Or.inr (Or.inl ⟨r, by omega, (es r (by omega)).mpr ⟨h2, h1⟩, h3, h4⟩)
    · refine Or.inr (Or.inr ⟨q, by omega, r, q1, (ep q r (by omega) (by omega)).mpr ⟨⟨q3, q2⟩, ⟨h2, h1⟩, q4⟩, q5, h3, ?_⟩)
      rw [orx (by omega), ← Nat.xor_assoc]; exact q6
  · rintro (x | ⟨p, hp, h1, h2, h3⟩ | ⟨p, hp, q, h1, h2, h3, h4, h5⟩)
    · exact Or.inl x
    · obtain ⟨s1, s2⟩ := (es p hp).mp h1
      exact Or.inr ⟨p, s2, s1, h2, Or.inl h3⟩
    · obtain ⟨⟨s1, s2⟩, ⟨s3, s4⟩, s5⟩ := (ep p q hp (by omega)).mp h2
      rw [orx (by omega), ← Nat.xor_assoc] at h5
      exact Or.inr ⟨q, s4, s3, h4, Or.inr ⟨p, ⟨h1, s2⟩, ⟨s1, s5⟩, h3, h5⟩⟩
theorem RS_ill {I np a S : Nat} {cb be : Nat → Nat} (hi : I.testBit a = true) : RS (muC I np cb be) (a + 1) S ↔ RS (muC I np cb be) a S := by
  rw [RS_step]
  constructor
  · rintro (x | ⟨p, hp, h1, -⟩ | ⟨p, hp, q, h1, h2, -⟩)
    · exact x
    · unfold sgN at h1; rw [hi] at h1; cases h1
    · unfold prN at h2; rw [hi] at h2; cases h2
  · exact Or.inl
/-- the fewer are ill, the more can be given -/
theorem RS_mono {I J np a S : Nat} {cb be : Nat → Nat} (h : ∀ b, b < a → I.testBit b = false → J.testBit b = false) (x : RS (muC I np cb be) a S) : RS (muC J np cb be) a S := by
  refine x.cong fun b hb c q => ?_
  rcases mu_pos.mp q with e | ⟨p, hp, h1, e⟩ | ⟨p, hp, q, h1, h2, e⟩
  · exact mu_pos.mpr (Or.inl e)
  · refine mu_pos.mpr (Or.inr (Or.inl ⟨p, hp, ?_, e⟩))
    unfold sgN at h1 ⊢
    have z : I.testBit b = false := by cases z : I.testBit b with
      | false => rfl
      | true => rw [z] at h1; cases h1
    rw [z] at h1; rw [h b hb z]; exact h1
  · refine mu_pos.mpr (Or.inr (Or.inr ⟨p, hp, q, h1, ?_, e⟩))
    unfold prN at h2 ⊢
    have z : I.testBit b = false := by cases z : I.testBit b with
      | false => rfl
      | true => rw [z] at h2; cases h2
    rw [z] at h2; rw [h b hb z]; exact h2
theorem RS_lo {I J np a S : Nat} {cb be : Nat → Nat} (h : ∀ b, b < a → I.testBit b = J.testBit b) : RS (muC I np cb be) a S ↔ RS (muC J np cb be) a S :=
  ⟨RS_mono fun b hb q => by rw [← h b hb]; exact q, RS_mono fun b hb q => by rw [h b hb]; exact q⟩
def pcA (a J : Nat) : Nat := sumN 8 (fun b => if a ≤ b ∧ J.testBit b = true then 1 else 0)
theorem pcA_0 (J : Nat) : pcA 0 J = pcN J := sumN_cong fun b _ => by
  by_cases z : J.testBit b = true
  · rw [if_pos ⟨Nat.zero_le _, z⟩, if_pos z]
  · rw [if_neg (fun q => z q.2), if_neg z]
theorem pcA_s {a J : Nat} (ha : a < 8) : pcA a J = (if J.testBit a = true then 1 else 0) + pcA (a + 1) J := by
  unfold pcA
  rw [← sumN_one (F := fun b => if J.testBit b = true then 1 else 0) (i0 := a) ha, ← sumN_add]
  refine sumN_cong fun b _ => ?_
  by_cases e : b = a
  · subst e
    rw [if_pos rfl]
    by_cases z : J.testBit b = true
    · rw [if_pos (show b ≤ b ∧ J.testBit b = true from ⟨Nat.le_refl _, z⟩), if_pos z, if_neg (fun q => by omega)]
    · rw [if_neg (fun q : b ≤ b ∧ J.testBit b = true => z q.2), if_neg z, if_neg (fun q => z q.2)]
  · rw [if_neg e, Nat.zero_add]
    by_cases z : a + 1 ≤ b ∧ J.testBit b = true
    · rw [if_pos z, if_pos ⟨by omega, z.2⟩]
    · rw [if_neg z, if_neg (fun q => z ⟨by omega, q.2⟩)]
theorem pcA_le {na J : Nat} (hJ : J < 2 ^ na) : ∀ (n a : Nat), na = a + n → na ≤ 8 → pcA a J ≤ n
  | 0, a, h, h8 => by
    refine Nat.le_of_eq (sumN_0 fun b _ => if_neg fun q => ?_)
    rw [Nat.testBit_lt_two_pow (Nat.lt_of_lt_of_le hJ (Nat.pow_le_pow_right (by decide) (show na ≤ b by omega)))] at q
    exact absurd q.2 (by decide)
  | n + 1, a, h, h8 => by
    rw [pcA_s (by omega)]
    have := pcA_le hJ n (a + 1) (by omega) h8
    split <;> omega
theorem pcA_or {a J : Nat} : pcA (a + 1) (J ||| 2 ^ a) = pcA (a + 1) J := sumN_cong fun b _ => by
  by_cases e : a + 1 ≤ b
  · rw [Nat.testBit_or, Nat.testBit_two_pow, decide_eq_false (show ¬ a = b by omega), Bool.or_false]
  · rw [if_neg (fun q => e q.1), if_neg (fun q => e q.1)]
theorem or_p2 {I a : Nat} (h : I < 2 ^ a) : I ||| 2 ^ a = I + 2 ^ a := by
  have := Nat.two_pow_add_eq_or_of_lt h 1
  rw [Nat.mul_one] at this
  rw [Nat.or_comm, ← this, Nat.add_comm]
theorem wd_full {np : Nat} (h : np ≤ 8) : 2 ^ np - 1 < 64 * wdN np := by
  have : ∀ n, n ≤ 8 → 2 ^ n - 1 < 64 * wdN n := by decide
  exact this np h
/-- those that go with I below a -/
def agB (a I J : Nat) : Prop := ∀ b, b < a → J.testBit b = I.testBit b
theorem ag_1 {a I J : Nat} (hI : I < 2 ^ a) (h : agB (a + 1) (I + 2 ^ a) J) : agB a I J ∧ J.testBit a = true := by
  refine ⟨fun b hb => ?_, ?_⟩
  · rw [h b (by omega), add_tb hI, if_neg (by omega)]
  · rw [h a (by omega), add_tb hI, if_pos rfl]
theorem ag_1r {a I J : Nat} (hI : I < 2 ^ a) (h : agB a I J) (h2 : J.testBit a = true) : agB (a + 1) (I + 2 ^ a) J := fun b hb => by
  rw [add_tb hI]
  by_cases e : b = a
  · rw [if_pos e, e]; exact h2
  · rw [if_neg e]; exact h b (by omega)
theorem ag_0 {a I J : Nat} (hI : I < 2 ^ a) (h : agB (a + 1) I J) : agB a I J ∧ J.testBit a = false :=
  ⟨fun b hb => h b (by omega), by rw [h a (by omega)]; exact Nat.testBit_lt_two_pow hI⟩
theorem ag_0r {a I J : Nat} (hI : I < 2 ^ a) (h : agB a I J) (h2 : J.testBit a = false) : agB (a + 1) I J := fun b hb => by
  by_cases e : b = a
  · rw [e, h2]; exact (Nat.testBit_lt_two_pow hI).symm
  · exact h b (by omega)
theorem ag_eq {a I J : Nat} (hI : I < 2 ^ a) (hJ : J < 2 ^ a) (h : agB a I J) : J = I := by
  refine Nat.eq_of_testBit_eq fun b => ?_
  by_cases e : b < a
  · exact h b e
  · have p := Nat.pow_le_pow_right (n := 2) (by decide) (show a ≤ b by omega)
    rw [Nat.testBit_lt_two_pow (by omega), Nat.testBit_lt_two_pow (by omega)]
