/-! a state becomes another -/
theorem Kp_wR {S : Nat → Nat → Prop} {h h2 : Hp} (a : Kp S h h2) {x : Nat} {g : Nat → Option Nat} (hS : ∀ i, S x i) (hr : ∀ f, rfT x f = none) : Kp S h (wR h2 x g) := by
  refine ⟨a.1, a.2.1, fun y i q => ?_, fun y f hf => ?_⟩
  · have e : y ≠ x := fun e => q (by rw [e]; exact hS i)
    refine ⟨(a.2.2.1 y i q).1, (a.2.2.1 y i q).2.1, ?_⟩
    rw [show hR (wR h2 x g) y = hR h2 y from if_neg e]; exact (a.2.2.1 y i q).2.2
  · have e : y ≠ x := fun e => hf (by rw [e]; exact hr f)
    rw [show hR (wR h2 x g) y = hR h2 y from if_neg e]; exact a.2.2.2 y f hf
theorem cpy0 {f g : Nat → Int32} {n i : Nat} (h : i < n) : va_cpy f g 0 0 n i = f i := by rw [pk_cpy_in (Nat.zero_le _) (by omega), Nat.zero_add, Nat.sub_zero]
/-- the cells a.. of h2 say what the cells b.. of h say -/
def BecV (a b : Nat) (h h2 : Hp) : Prop := (hI h2 a 0 = hI h b 0 ∧ hI h2 a 1 = hI h b 1 ∧ hI h2 a 6 = hI h b 6 ∧ hI h2 a 9 = hI h b 9 ∧ hI h2 a 10 = hI h b 10 ∧ hI h2 a 12 = hI h b 12 ∧ hI h2 a 14 = hI h b 14) ∧ (∀ i, i < 32 → hI h2 (a + 1) i = hI h (b + 1) i) ∧ (∀ i, i < 24 → hI h2 (a + 2) i = hI h (b + 2) i) ∧ (∀ i, i < 8 → hI h2 (a + 3) i = hI h (b + 3) i) ∧ (∀ i, i < 64 → hI h2 (a + 4) i = hI h (b + 4) i) ∧ (∀ i, i < 3 → hI h2 (a + 5) i = hI h (b + 5) i) ∧ (∀ i, i < 28 → hI h2 (a + 7) i = hI h (b + 7) i) ∧ (∀ i, i < 8 → hI h2 (a + 8) i = hI h (b + 8) i) ∧ ∀ i, i < 6 → hR h2 (a + 6) i = hR h (b + 6) i
theorem bec_20_10 (h : Hp) {g : Nat → Option Nat} (hg : ∀ j, j < 6 → g j = hR h 16 j) : Kp (fun x i => 20 ≤ x ∧ x ≤ 28) h (becT 20 10 (wR (becH 20 10 h) 26 g)) ∧ BecV 20 10 h (becT 20 10 (wR (becH 20 10 h) 26 g)) := by
  have t : ∀ (y i : Nat), 20 ≤ y ∧ y ≤ 28 → (fun (x : Nat) (_ : Nat) => 20 ≤ x ∧ x ≤ 28) y i := fun y i q => q
  constructor
  · unfold becT becH
    refine Kp.sI ?_ (t 20 14 (by decide))
    refine Kp_wI2 ?_ (fun i q => absurd (t 28 i (by decide)) q)
    refine Kp.sI ?_ (t 20 12 (by decide))
    refine Kp_wI2 ?_ (fun i q => absurd (t 27 i (by decide)) q)
    refine Kp.sI ?_ (t 20 10 (by decide))
    refine Kp.sI ?_ (t 20 9 (by decide))
    refine Kp_wR ?_ (fun i => t 26 i (by decide)) (fun _ => rfl)
    refine Kp_wI2 ?_ (fun i q => absurd (t 25 i (by decide)) q)
    refine Kp.sI ?_ (t 20 6 (by decide))
    refine Kp_wI2 ?_ (fun i q => absurd (t 24 i (by decide)) q)
    refine Kp_wI2 ?_ (fun i q => absurd (t 23 i (by decide)) q)
    refine Kp_wI2 ?_ (fun i q => absurd (t 22 i (by decide)) q)
    refine Kp_wI2 ?_ (fun i q => absurd (t 21 i (by decide)) q)
    refine Kp.sI ?_ (t 20 1 (by decide))
    refine Kp.sI ?_ (t 20 0 (by decide))
    exact Kp.refl h
  · refine ⟨⟨?_, ?_, ?_, ?_, ?_, ?_, ?_⟩, fun i hi => ?_, fun i hi => ?_, fun i hi => ?_, fun i hi => ?_, fun i hi => ?_, fun i hi => ?_, fun i hi => ?_, fun i hi => ?_⟩
    · simp [becT, becH, hI_sI, hI_wI, hI_wR]
    · simp [becT, becH, hI_sI, hI_wI, hI_wR]
    · simp [becT, becH, hI_sI, hI_wI, hI_wR]
    · simp [becT, becH, hI_sI, hI_wI, hI_wR]
    · simp [becT, becH, hI_sI, hI_wI, hI_wR]
    · simp [becT, becH, hI_sI, hI_wI, hI_wR]
    · simp [becT, becH, hI_sI, hI_wI, hI_wR]
    · simp only [becT, becH, hI_sIr, hI_wI, hI_wR, Nat.reduceAdd, Nat.reduceEqDiff, false_and, ↓reduceIte]
      exact cpy0 hi
    · simp only [becT, becH, hI_sIr, hI_wI, hI_wR, Nat.reduceAdd, Nat.reduceEqDiff, false_and, ↓reduceIte]
      exact cpy0 hi
    · simp only [becT, becH, hI_sIr, hI_wI, hI_wR, Nat.reduceAdd, Nat.reduceEqDiff, false_and, ↓reduceIte]
      exact cpy0 hi
    · simp only [becT, becH, hI_sIr, hI_wI, hI_wR, Nat.reduceAdd, Nat.reduceEqDiff, false_and, ↓reduceIte]
      exact cpy0 hi
    · simp only [becT, becH, hI_sIr, hI_wI, hI_wR, Nat.reduceAdd, Nat.reduceEqDiff, false_and, ↓reduceIte]
      exact cpy0 hi
    · simp only [becT, becH, hI_sIr, hI_wI, hI_wR, Nat.reduceAdd, Nat.reduceEqDiff, false_and, ↓reduceIte]
      exact cpy0 hi
    · simp only [becT, becH, hI_sIr, hI_wI, hI_wR, Nat.reduceAdd, Nat.reduceEqDiff, false_and, ↓reduceIte]
      exact cpy0 hi
    · rw [show hR (becT 20 10 (wR (becH 20 10 h) 26 g)) (20 + 6) = g from rfl]; exact hg i hi
theorem bec_29_10 (h : Hp) {g : Nat → Option Nat} (hg : ∀ j, j < 6 → g j = hR h 16 j) : Kp (fun x i => 29 ≤ x ∧ x ≤ 37) h (becT 29 10 (wR (becH 29 10 h) 35 g)) ∧ BecV 29 10 h (becT 29 10 (wR (becH 29 10 h) 35 g)) := by
  have t : ∀ (y i : Nat), 29 ≤ y ∧ y ≤ 37 → (fun (x : Nat) (_ : Nat) => 29 ≤ x ∧ x ≤ 37) y i := fun y i q => q
  constructor
  · unfold becT becH
    refine Kp.sI ?_ (t 29 14 (by decide))
    refine Kp_wI2 ?_ (fun i q => absurd (t 37 i (by decide)) q)
    refine Kp.sI ?_ (t 29 12 (by decide))
    refine Kp_wI2 ?_ (fun i q => absurd (t 36 i (by decide)) q)
    refine Kp.sI ?_ (t 29 10 (by decide))
    refine Kp.sI ?_ (t 29 9 (by decide))
    refine Kp_wR ?_ (fun i => t 35 i (by decide)) (fun _ => rfl)
    refine Kp_wI2 ?_ (fun i q => absurd (t 34 i (by decide)) q)
    refine Kp.sI ?_ (t 29 6 (by decide))
    refine Kp_wI2 ?_ (fun i q => absurd (t 33 i (by decide)) q)
    refine Kp_wI2 ?_ (fun i q => absurd (t 32 i (by decide)) q)
    refine Kp_wI2 ?_ (fun i q => absurd (t 31 i (by decide)) q)
    refine Kp_wI2 ?_ (fun i q => absurd (t 30 i (by decide)) q)
    refine Kp.sI ?_ (t 29 1 (by decide))
    refine Kp.sI ?_ (t 29 0 (by decide))
    exact Kp.refl h
  · refine ⟨⟨?_, ?_, ?_, ?_, ?_, ?_, ?_⟩, fun i hi => ?_, fun i hi => ?_, fun i hi => ?_, fun i hi => ?_, fun i hi => ?_, fun i hi => ?_, fun i hi => ?_, fun i hi => ?_⟩
    · simp [becT, becH, hI_sI, hI_wI, hI_wR]
    · simp [becT, becH, hI_sI, hI_wI, hI_wR]
    · simp [becT, becH, hI_sI, hI_wI, hI_wR]
    · simp [becT, becH, hI_sI, hI_wI, hI_wR]
    · simp [becT, becH, hI_sI, hI_wI, hI_wR]
    · simp [becT, becH, hI_sI, hI_wI, hI_wR]
    · simp [becT, becH, hI_sI, hI_wI, hI_wR]
    · simp only [becT, becH, hI_sIr, hI_wI, hI_wR, Nat.reduceAdd, Nat.reduceEqDiff, false_and, ↓reduceIte]
      exact cpy0 hi
    · simp only [becT, becH, hI_sIr, hI_wI, hI_wR, Nat.reduceAdd, Nat.reduceEqDiff, false_and, ↓reduceIte]
      exact cpy0 hi
    · simp only [becT, becH, hI_sIr, hI_wI, hI_wR, Nat.reduceAdd, Nat.reduceEqDiff, false_and, ↓reduceIte]
      exact cpy0 hi
    · simp only [becT, becH, hI_sIr, hI_wI, hI_wR, Nat.reduceAdd, Nat.reduceEqDiff, false_and, ↓reduceIte]
      exact cpy0 hi
    · simp only [becT, becH, hI_sIr, hI_wI, hI_wR, Nat.reduceAdd, Nat.reduceEqDiff, false_and, ↓reduceIte]
      exact cpy0 hi
    · simp only [becT, becH, hI_sIr, hI_wI, hI_wR, Nat.reduceAdd, Nat.reduceEqDiff, false_and, ↓reduceIte]
      exact cpy0 hi
    · simp only [becT, becH, hI_sIr, hI_wI, hI_wR, Nat.reduceAdd, Nat.reduceEqDiff, false_and, ↓reduceIte]
      exact cpy0 hi
    · rw [show hR (becT 29 10 (wR (becH 29 10 h) 35 g)) (29 + 6) = g from rfl]; exact hg i hi
theorem bec_10_20 (h : Hp) {g : Nat → Option Nat} (hg : ∀ j, j < 6 → g j = hR h 26 j) : Kp (fun x i => 10 ≤ x ∧ x ≤ 18) h (becT 10 20 (wR (becH 10 20 h) 16 g)) ∧ BecV 10 20 h (becT 10 20 (wR (becH 10 20 h) 16 g)) := by
  have t : ∀ (y i : Nat), 10 ≤ y ∧ y ≤ 18 → (fun (x : Nat) (_ : Nat) => 10 ≤ x ∧ x ≤ 18) y i := fun y i q => q
  constructor
  · unfold becT becH
    refine Kp.sI ?_ (t 10 14 (by decide))
    refine Kp_wI2 ?_ (fun i q => absurd (t 18 i (by decide)) q)
    refine Kp.sI ?_ (t 10 12 (by decide))
    refine Kp_wI2 ?_ (fun i q => absurd (t 17 i (by decide)) q)
    refine Kp.sI ?_ (t 10 10 (by decide))
    refine Kp.sI ?_ (t 10 9 (by decide))
    refine Kp_wR ?_ (fun i => t 16 i (by decide)) (fun _ => rfl)
    refine Kp_wI2 ?_ (fun i q => absurd (t 15 i (by decide)) q)
    refine Kp.sI ?_ (t 10 6 (by decide))
    refine Kp_wI2 ?_ (fun i q => absurd (t 14 i (by decide)) q)
    refine Kp_wI2 ?_ (fun i q => absurd (t 13 i (by decide)) q)
    refine Kp_wI2 ?_ (fun i q => absurd (t 12 i (by decide)) q)
    refine Kp_wI2 ?_ (fun i q => absurd (t 11 i (by decide)) q)
    refine Kp.sI ?_ (t 10 1 (by decide))
    refine Kp.sI ?_ (t 10 0 (by decide))
    exact Kp.refl h
  · refine ⟨⟨?_, ?_, ?_, ?_, ?_, ?_, ?_⟩, fun i hi => ?_, fun i hi => ?_, fun i hi => ?_, fun i hi => ?_, fun i hi => ?_, fun i hi => ?_, fun i hi => ?_, fun i hi => ?_⟩
    · simp [becT, becH, hI_sI, hI_wI, hI_wR]
    · simp [becT, becH, hI_sI, hI_wI, hI_wR]
    · simp [becT, becH, hI_sI, hI_wI, hI_wR]
    · simp [becT, becH, hI_sI, hI_wI, hI_wR]
    · simp [becT, becH, hI_sI, hI_wI, hI_wR]
    · simp [becT, becH, hI_sI, hI_wI, hI_wR]
    · simp [becT, becH, hI_sI, hI_wI, hI_wR]
    · simp only [becT, becH, hI_sIr, hI_wI, hI_wR, Nat.reduceAdd, Nat.reduceEqDiff, false_and, ↓reduceIte]
      exact cpy0 hi
    · simp only [becT, becH, hI_sIr, hI_wI, hI_wR, Nat.reduceAdd, Nat.reduceEqDiff, false_and, ↓reduceIte]
      exact cpy0 hi
    · simp only [becT, becH, hI_sIr, hI_wI, hI_wR, Nat.reduceAdd, Nat.reduceEqDiff, false_and, ↓reduceIte]
      exact cpy0 hi
    · simp only [becT, becH, hI_sIr, hI_wI, hI_wR, Nat.reduceAdd, Nat.reduceEqDiff, false_and, ↓reduceIte]
      exact cpy0 hi
    · simp only [becT, becH, hI_sIr, hI_wI, hI_wR, Nat.reduceAdd, Nat.reduceEqDiff, false_and, ↓reduceIte]
      exact cpy0 hi
    · simp only [becT, becH, hI_sIr, hI_wI, hI_wR, Nat.reduceAdd, Nat.reduceEqDiff, false_and, ↓reduceIte]
      exact cpy0 hi
    · simp only [becT, becH, hI_sIr, hI_wI, hI_wR, Nat.reduceAdd, Nat.reduceEqDiff, false_and, ↓reduceIte]
      exact cpy0 hi
    · rw [show hR (becT 10 20 (wR (becH 10 20 h) 16 g)) (10 + 6) = g from rfl]; exact hg i hi
theorem bec_10_29 (h : Hp) {g : Nat → Option Nat} (hg : ∀ j, j < 6 → g j = hR h 35 j) : Kp (fun x i => 10 ≤ x ∧ x ≤ 18) h (becT 10 29 (wR (becH 10 29 h) 16 g)) ∧ BecV 10 29 h (becT 10 29 (wR (becH 10 29 h) 16 g)) := by
  have t : ∀ (y i : Nat), 10 ≤ y ∧ y ≤ 18 → (fun (x : Nat) (_ : Nat) => 10 ≤ x ∧ x ≤ 18) y i := fun y i q => q
  constructor
  · unfold becT becH
    refine Kp.sI ?_ (t 10 14 (by decide))
    refine Kp_wI2 ?_ (fun i q => absurd (t 18 i (by decide)) q)
    refine Kp.sI ?_ (t 10 12 (by decide))
    refine Kp_wI2 ?_ (fun i q => absurd (t 17 i (by decide)) q)
    refine Kp.sI ?_ (t 10 10 (by decide))
    refine Kp.sI ?_ (t 10 9 (by decide))
    refine Kp_wR ?_ (fun i => t 16 i (by decide)) (fun _ => rfl)
    refine Kp_wI2 ?_ (fun i q => absurd (t 15 i (by decide)) q)
    refine Kp.sI ?_ (t 10 6 (by decide))
    refine Kp_wI2 ?_ (fun i q => absurd (t 14 i (by decide)) q)
    refine Kp_wI2 ?_ (fun i q => absurd (t 13 i (by decide)) q)
    refine Kp_wI2 ?_ (fun i q => absurd (t 12 i (by decide)) q)
    refine Kp_wI2 ?_ (fun i q => absurd (t 11 i (by decide)) q)
    refine Kp.sI ?_ (t 10 1 (by decide))
    refine Kp.sI ?_ (t 10 0 (by decide))
    exact Kp.refl h
  · refine ⟨⟨?_, ?_, ?_, ?_, ?_, ?_, ?_⟩, fun i hi => ?_, fun i hi => ?_, fun i hi => ?_, fun i hi => ?_, fun i hi => ?_, fun i hi => ?_, fun i hi => ?_, fun i hi => ?_⟩
    · simp [becT, becH, hI_sI, hI_wI, hI_wR]
    · simp [becT, becH, hI_sI, hI_wI, hI_wR]
    · simp [becT, becH, hI_sI, hI_wI, hI_wR]
    · simp [becT, becH, hI_sI, hI_wI, hI_wR]
    · simp [becT, becH, hI_sI, hI_wI, hI_wR]
    · simp [becT, becH, hI_sI, hI_wI, hI_wR]
    · simp [becT, becH, hI_sI, hI_wI, hI_wR]
    · simp only [becT, becH, hI_sIr, hI_wI, hI_wR, Nat.reduceAdd, Nat.reduceEqDiff, false_and, ↓reduceIte]
      exact cpy0 hi
    · simp only [becT, becH, hI_sIr, hI_wI, hI_wR, Nat.reduceAdd, Nat.reduceEqDiff, false_and, ↓reduceIte]
      exact cpy0 hi
    · simp only [becT, becH, hI_sIr, hI_wI, hI_wR, Nat.reduceAdd, Nat.reduceEqDiff, false_and, ↓reduceIte]
      exact cpy0 hi
    · simp only [becT, becH, hI_sIr, hI_wI, hI_wR, Nat.reduceAdd, Nat.reduceEqDiff, false_and, ↓reduceIte]
      exact cpy0 hi
    · simp only [becT, becH, hI_sIr, hI_wI, hI_wR, Nat.reduceAdd, Nat.reduceEqDiff, false_and, ↓reduceIte]
      exact cpy0 hi
    · simp only [becT, becH, hI_sIr, hI_wI, hI_wR, Nat.reduceAdd, Nat.reduceEqDiff, false_and, ↓reduceIte]
      exact cpy0 hi
    · simp only [becT, becH, hI_sIr, hI_wI, hI_wR, Nat.reduceAdd, Nat.reduceEqDiff, false_and, ↓reduceIte]
      exact cpy0 hi
    · rw [show hR (becT 10 29 (wR (becH 10 29 h) 16 g)) (10 + 6) = g from rfl]; exact hg i hi
theorem SRv.cp {s af pf us kn tm s' af' pf' us' kn' tm' : Nat → Int32} {lw lw' : Nat → Option Nat} {ls td ls' td' : Nat → Int32} {L : LvT} {n : Nat} {f f' : Nat → Int32} {na np nl ns nt : Nat} {Tl : Nat → LawT} (x : SRv s af pf us kn tm lw ls td L n f na np nl ns nt Tl) (hs : s' 0 = s 0 ∧ s' 1 = s 1 ∧ s' 6 = s 6 ∧ s' 9 = s 9 ∧ s' 10 = s 10 ∧ s' 12 = s 12 ∧ s' 14 = s 14) (haf : ∀ i, i < 32 → af' i = af i) (hpf : ∀ i, i < 24 → pf' i = pf i) (hus : ∀ i, i < 8 → us' i = us i) (hkn : ∀ i, i < 64 → kn' i = kn i) (htm : ∀ i, i < 3 → tm' i = tm i) (hls : ∀ i, i < 28 → ls' i = ls i) (htd : ∀ i, i < 8 → td' i = td i) (hlw : ∀ i, i < 6 → lw' i = lw i) (hf : ∀ i, i < 5580 → f' i = f i) : SRv s' af' pf' us' kn' tm' lw' ls' td' L n f' na np nl ns nt Tl := by
  obtain ⟨x1, x2, x3, x4, x5, x6, x7, x8, x9, x10, x11⟩ := x
  have hn := x1.1
  obtain ⟨⟨n1, n2, n3, n4, n5⟩, ⟨s1, s2, s3, s4, s5⟩, f1, f2, f3, f4, f5⟩ := x1
  refine ⟨⟨hn, ⟨by rw [hs.1]; exact s1, by rw [hs.2.1]; exact s2, by rw [hs.2.2.2.1]; exact s3, by rw [hs.2.2.2.2.2.1]; exact s4, by rw [hs.2.2.2.2.2.2]; exact s5⟩, by rw [hf _ (by omega)]; exact f1, by rw [hf _ (by omega)]; exact f2, by rw [hf _ (by omega)]; exact f3, by rw [hf _ (by omega)]; exact f4, by rw [hf _ (by omega)]; exact f5⟩, ?_, ?_, ?_, ?_, ?_, ?_, ?_, ?_, ?_, ?_⟩
  · unfold FrcR; rw [hs.2.2.2.2.1, hf _ (by omega)]; exact x2
  · unfold IllR; rw [hs.2.2.1, hf _ (by omega)]; exact x3
  · unfold TrmR; rw [htm 0 (by omega), htm 1 (by omega), htm 2 (by omega), hf 5 (by omega), hf 6 (by omega), hf 7 (by omega)]; exact x4
  · refine ⟨fun i hi => ?_, fun a ha => ?_⟩
    · rw [haf i hi, hf _ (by omega)]; exact x5.1 i hi
    · rw [hf _ (by omega)]; exact x5.2 a ha
  · intro p hp k hk
    rw [hpf _ (by omega), hf _ (by omega)]; exact x6 p hp k hk
  · refine ⟨fun p hp => ?_, fun p h1 h2 => ?_⟩
    · rw [hus p (by omega), hf _ (by omega)]; exact x7.1 p hp
    · rw [hus p h2]; exact x7.2 p h1 h2
  · intro i hi
    rw [hkn i hi, hf _ (by omega)]; exact x8 i hi
  · intro q hq
    rw [hls _ (by omega), hls _ (by omega), hls _ (by omega), hls _ (by omega), hf _ (by omega), hf _ (by omega), hf _ (by omega), hf _ (by omega)]; exact x9 q hq
  · intro i hi
    rw [htd i (by omega), hf _ (by omega)]; exact x10 i hi
  · intro i hi
    rw [hlw i (by omega)]
    exact (LwR.off x11 n3 (fun j h1 h2 => hf j (by omega))) i hi
