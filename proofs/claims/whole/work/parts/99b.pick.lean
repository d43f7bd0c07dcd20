/-! Nights.pick: its steps -/
abbrev WpN (np p : Nat) : Nat := (2 ^ np - 1) &&& (255 ^^^ (2 ^ p - 1))
theorem WpN_tb {np p r : Nat} (hnp : np ≤ 8) : (WpN np p).testBit r = (decide (r < np) && decide (p ≤ r)) := by
  rw [Nat.testBit_and, Nat.testBit_xor, full_tb, lowP, c255]
  by_cases h : r < np
  · have h8 : r < 8 := by omega
    by_cases h2 : r < p
    · simp [h, h8, h2]
    · simp [h, h8, h2, show p ≤ r by omega]
  · simp [h]
theorem WpN_s {np p : Nat} (hnp : np ≤ 8) (hp : p < np) : WpN np p &&& (511 ^^^ 2 ^ p) = WpN np (p + 1) := by
  refine Nat.eq_of_testBit_eq fun r => ?_
  rw [Nat.testBit_and, WpN_tb hnp, WpN_tb hnp, Nat.testBit_xor, Nat.testBit_two_pow]
  have e : (511 : Nat).testBit r = decide (r < 9) := Nat.testBit_two_pow_sub_one 9 r
  rw [e]
  by_cases h : r < np
  · have h9 : r < 9 := by omega
    by_cases h2 : p = r
    · subst h2; simp [h, h9]
    · by_cases h3 : p ≤ r
      · simp [h, h9, h2, h3, show p + 1 ≤ r by omega]
      · simp [h, h9, h2, h3, show ¬ p + 1 ≤ r by omega]
  · simp [h]
theorem WpN_0 {np : Nat} (hnp : np ≤ 8) : WpN np 0 = 2 ^ np - 1 := by
  refine Nat.eq_of_testBit_eq fun r => ?_
  rw [WpN_tb hnp, full_tb]; simp
theorem WpN_lt (np p : Nat) : WpN np p < 2 ^ np := Nat.lt_of_le_of_lt Nat.and_le_left (by have := Nat.two_pow_pos np; omega)
theorem held_0 {g : Nat → Nat} (b : Nat) : heldM (2 ^ 0 - 1) g b = 0 := Nat.eq_of_testBit_eq fun r => by
  rw [held_tb (by decide), lowP]; simp
section KH
variable {l : Launch} {E : Ev} {d : Nat} {Q : Option Value → Hp → Prop} {h : Hp} {na np : Nat} {Tl : Nat → LawT} {f : Nat → Int32}
theorem NC.w {c pu W W' : Nat} {cb be hd : Nat → Nat} {co : Nat → Nat → Nat} (N : NC h c na np pu W cb be hd co) (hv : W' < 2 ^ np) : NC (sI h 60 4 (nI W')) c na np pu W' cb be hd co := by
  obtain ⟨n1, n2, n3, n4, n5, n6, n7, n8⟩ := N
  have o : ∀ x i, ¬ (x = 60 ∧ i = 4) → hI (sI h 60 4 (nI W')) x i = hI h x i := fun x i q => by rw [hI_sI, if_neg q]
  have c60 : c ≠ 60 ∧ c + 1 ≠ 60 ∧ c + 2 ≠ 60 ∧ c + 3 ≠ 60 := by omega
  refine ⟨n1, n2, ⟨n3.1, n3.2.1, n3.2.2.1, hv⟩, ?_, fun a ha => ?_, fun p hp => ?_, fun a ha p hp => ?_, fun b hb => ?_⟩
  · rw [o c 0 (by omega), o c 1 (by omega), o 60 1 (by omega), o 60 3 (by omega), hI_sI, if_pos ⟨rfl, rfl⟩]; exact ⟨n4.1, n4.2.1, n4.2.2.1, n4.2.2.2.1, rfl⟩
  · rw [o _ _ (by omega)]; exact n5 a ha
  · rw [o _ _ (by omega)]; exact n6 p hp
  · rw [o _ _ (by omega)]; exact n7 a ha p hp
  · rw [o _ _ (by omega)]; exact n8 b hb
theorem NC.cg {c pu W : Nat} {cb be hd hd' : Nat → Nat} {co : Nat → Nat → Nat} (N : NC h c na np pu W cb be hd co) (e : ∀ b, b < na → hd b = hd' b) : NC h c na np pu W cb be hd' co := by
  obtain ⟨n1, n2, n3, n4, n5, n6, n7, n8⟩ := N
  exact ⟨n1, n2, n3, n4, n5, n6, n7, fun b hb => by rw [← e b hb]; exact n8 b hb⟩
theorem NC.of {S : Nat → Nat → Prop} {h2 : Hp} {c pu W : Nat} {cb be hd : Nat → Nat} {co : Nat → Nat → Nat} (N : NC h c na np pu W cb be hd co) (K : Kp S h h2) (hs : ∀ a i, S a i → a = 61 ∨ a = 63) : NC h2 c na np pu W cb be hd co := by
  obtain ⟨n1, n2, n3, ⟨m1, m2, m3, m4, m5⟩, n5, n6, n7, n8⟩ := N
  have o : ∀ x i, x ≠ 61 → x ≠ 63 → hI h2 x i = hI h x i := fun x i q q2 => K.i (fun y => (hs x i y).elim q q2)
  refine ⟨n1, by rw [K.r (fun y => by have := hs _ _ y; omega)]; exact n2, n3, ⟨?_, ?_, ?_, ?_, ?_⟩, fun a ha => ?_, fun p hp => ?_, fun a ha p hp => ?_, fun a ha => ?_⟩
  · rw [o _ _ (by omega) (by omega)]; exact m1
  · rw [o _ _ (by omega) (by omega)]; exact m2
  · rw [o _ _ (by omega) (by omega)]; exact m3
  · rw [o _ _ (by omega) (by omega)]; exact m4
  · rw [o _ _ (by omega) (by omega)]; exact m5
  · rw [o _ _ (by omega) (by omega)]; exact n5 a ha
  · rw [o _ _ (by omega) (by omega)]; exact n6 p hp
  · rw [o _ _ (by omega) (by omega)]; exact n7 a ha p hp
  · rw [o _ _ (by omega) (by omega)]; exact n8 a ha
/-- a way that is there: what it needs -/
theorem NF_pos {g : Nat → Nat} {p a ill its : Nat} (hnp : np ≤ 8) (hp : p < np) (hg : ∀ q, q < p → g q < na) (ha : a < na) (h : 0 < NF (mu0 f np ill (cnA f Tl)) (coA f Tl) na (2 ^ np - 1) its p g a) : spN (coA f Tl) g p + coA f Tl a p ≤ its ∧ 0 < mu0 f np ill (cnA f Tl) a (heldM (2 ^ p - 1) g a ||| 2 ^ p) := by
  refine ⟨?_, Nat.pos_of_ne_zero fun z => ?_⟩
  · rw [NF_sh hnp hp hg ha] at h
    unfold sh at h
    apply Classical.byContradiction
    intro q
    rw [if_neg q] at h
    exact absurd h (by decide)
  · rw [NF_dead hnp hp hg ha z] at h
    exact absurd h (by decide)
theorem sp_up {co : Nat → Nat → Nat} {g : Nat → Nat} {p a : Nat} : spN co (upN g p a) (p + 1) = spN co g p + co a p := by
  unfold spN
  rw [sumN, sumN_cong (G := fun q => co (g q) q) (fun q hq => by unfold upN; rw [if_neg (by omega)])]
  unfold upN
  rw [if_pos rfl]
end KH
