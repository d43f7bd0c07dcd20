/-! the least of a count -/
def LsP (G : Nat → Nat) (v : Nat) : Prop := ((∀ k, G k = 0) ∧ v = 0) ∨ (0 < G v ∧ ∀ k, k < v → G k = 0)
theorem LsP_ex (G : Nat → Nat) : ∃ v, LsP G v := by
  by_cases h : ∀ k, G k = 0
  · exact ⟨0, Or.inl ⟨h, rfl⟩⟩
  · have h : ∃ k, 0 < G k := by
      apply Classical.byContradiction
      intro n
      exact h fun k => Nat.eq_zero_of_not_pos fun z => n ⟨k, z⟩
    obtain ⟨k, hk⟩ := h
    have : ∀ n, (∃ v, LsP G v) ∨ ∀ k, k < n → G k = 0 := by
      intro n
      induction n with
      | zero => exact Or.inr fun k hk => absurd hk (Nat.not_lt_zero k)
      | succ n ih =>
        rcases ih with ih | ih
        · exact Or.inl ih
        · rcases Nat.eq_zero_or_pos (G n) with z | z
          · refine Or.inr fun k hk => ?_
            rcases Nat.lt_or_ge k n with q | q
            · exact ih k q
            · rw [show k = n by omega]; exact z
          · exact Or.inl ⟨n, Or.inr ⟨z, ih⟩⟩
    rcases this (k + 1) with q | q
    · exact q
    · have := q k (by omega); omega
noncomputable def lsV (G : Nat → Nat) : Nat := Classical.choose (LsP_ex G)
theorem lsV_ok (G : Nat → Nat) : LsP G (lsV G) := Classical.choose_spec (LsP_ex G)
theorem LsP.uniq {G : Nat → Nat} {v v' : Nat} (x : LsP G v) (y : LsP G v') : v = v' := by
  rcases x with ⟨x1, x2⟩ | ⟨x1, x2⟩
  · rcases y with ⟨y1, y2⟩ | ⟨y1, y2⟩
    · omega
    · have := x1 v'; omega
  · rcases y with ⟨y1, y2⟩ | ⟨y1, y2⟩
    · have := y1 v; omega
    · exact lst_uniq x1 x2 y1 y2
/-- by actors a and on nothing of the sick beyond a counts -/
theorem CN_lo {pu I J : Nat} {cb be hd : Nat → Nat} {co : Nat → Nat → Nat} {W a S k : Nat} (h : ∀ b, b < a → I.testBit b = J.testBit b) : CN pu I cb be hd co W a S k = CN pu J cb be hd co W a S k := by
  refine Cm_cong a (fun b hb c _ => ⟨?_, fun _ => rfl⟩) S k
  have e := h b hb
  unfold muOf
  congr 1
  · congr 1
    refine sumN_cong fun p _ => ?_
    rw [sgN, sgN, e]
  · refine sumN_cong fun p _ => sumN_cong fun q _ => ?_
    rw [prN, prN, e]
theorem add_tb {I a b : Nat} (hI : I < 2 ^ a) : (I + 2 ^ a).testBit b = if b = a then true else I.testBit b := by
  rw [Nat.add_comm]
  by_cases e : b = a
  · subst e; rw [if_pos rfl, Nat.testBit_two_pow_add_eq, Nat.testBit_lt_two_pow hI]; rfl
  · rw [if_neg e]
    rcases Nat.lt_or_gt_of_ne e with z | z
    · rw [Nat.testBit_two_pow_add_gt z]
    · rw [Nat.testBit_lt_two_pow (Nat.lt_of_lt_of_le hI (Nat.pow_le_pow_right (by decide) (by omega))), Nat.testBit_lt_two_pow]
      have := Nat.pow_le_pow_right (show 0 < 2 by decide) (show a + 1 ≤ b by omega)
      rw [Nat.pow_succ] at this; omega
