/-! Nights.followed -/
theorem RpX.one {x : Int64} {G : Nat → Nat} (r : RpX 1 x G) (b : BdX 1 G) : (NoN ≤ x ∧ ∀ k, G k = 0) ∨ (¬ NoN ≤ x ∧ ∃ m, 0 < G m ∧ (∀ k, k < m → G k = 0) ∧ m < 2 ^ 20 ∧ x >>> ((32 : Int32).toInt64 &&& 63) = lN m ∧ x &&& 4294967295 = lN (G m)) := by
  have lt := r.lt b
  rcases r with ⟨rfl, h⟩ | ⟨m, h1, h2, rfl⟩
  · exact Or.inl ⟨by decide, h⟩
  · have e := encX_lt (pu := 1) (b.2 m h1) (b.1 m)
    have g := b.1 m
    have k := b.2 m h1
    simp only [kMx, if_neg (show ¬ (1 : Nat) = 0 by decide)] at k
    have ee : encX 1 m (G m) = m * 2 ^ 32 + G m := by unfold encX; rw [if_neg (by decide)]
    refine Or.inr ⟨fun q => ?_, m, h1, h2, k, ?_, ?_⟩
    · have := lt.2.mp q m; omega
    · rw [lL_shr (by omega) (by decide), ee]; congr 1; omega
    · rw [lL_low (by omega), ee]; congr 1; omega
theorem Kp.back {h h2 : Hp} {a : Nat} (K : Kp (fun x i => x = 61 ∨ (x = 62 ∧ i = a)) h h2) (e : hI h2 62 a = hI h 62 a) (eJ : hJ h2 62 a = hJ h 62 a) (eR : hR h2 62 a = hR h 62 a) : Kp (onlyC 61) h h2 := by
  refine ⟨K.1, K.2.1, fun x i hx => ?_, K.2.2.2⟩
  by_cases q : x = 62 ∧ i = a
  · obtain ⟨rfl, rfl⟩ := q
    exact ⟨e, eJ, eR⟩
  · exact K.2.2.1 x i (fun z => z.elim hx q)
section KF
variable {l : Launch} {E : Ev} {d : Nat} {Q : Option Value → Hp → Prop} {h : Hp} {na np : Nat} {Tl : Nat → LawT} {f : Nat → Int32}
theorem NC.up {c pu W a v : Nat} {cb be hd : Nat → Nat} {co : Nat → Nat → Nat} (N : NC h c na np pu W cb be hd co) (hv : v < 2 ^ np) : NC (sI h 62 a (nI v)) c na np pu W cb be (fun b => if b = a then v else hd b) co := by
  obtain ⟨n1, n2, n3, n4, n5, n6, n7, n8⟩ := N
  have o : ∀ x i, x ≠ 62 → hI (sI h 62 a (nI v)) x i = hI h x i := fun x i q => by rw [hI_sI, if_neg (fun z => q z.1)]
  have c62 : c ≠ 62 ∧ c + 1 ≠ 62 ∧ c + 2 ≠ 62 ∧ c + 3 ≠ 62 := by omega
  refine ⟨n1, n2, n3, ?_, fun a ha => ?_, fun p hp => ?_, fun a ha p hp => ?_, fun b hb => ?_⟩
  · rw [o c 0 c62.1, o c 1 c62.1, o 60 1 (by decide), o 60 3 (by decide), o 60 4 (by decide)]; exact n4
  · rw [o _ _ c62.2.1]; exact n5 a ha
  · rw [o _ _ c62.2.2.2]; exact n6 p hp
  · rw [o _ _ c62.2.2.1]; exact n7 a ha p hp
  · rw [hI_sI]
    by_cases e : b = a
    · rw [if_pos ⟨rfl, e⟩]; simp only [if_pos e]; exact ⟨trivial, hv⟩
    · rw [if_neg (fun z => e z.2)]; simp only [if_neg e]; exact n8 b hb
end KF
