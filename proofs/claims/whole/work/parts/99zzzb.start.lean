/-! THE HEAP AT THE LAW'S START, and behind both constructors. o: what the JDK's formatter is (nobody uses it) -/
def stI (p j : Nat) : Int32 := match p with
  | 0 => nI ([100, 0, 0, 0].getD j 0)
  | 1 => nI ([220, 9, 9, 100].getD j 0)
  | 2 => nI ([9, 9, 255].getD j 0)
  | 3 => nI ([9, 1, 99].getD j 0)
  | 6 => nI (wsB.getD j 0)
  | _ => 0
def stJ (p j : Nat) : Int64 := if p = 4 then lN (woN.getD j 0) else 0
def h0 (o : Option Nat) : Hp := (fun a => if a < 9 then shT a else (0, 0), stI, stJ, fun a j => if a = 7 ∧ j = 0 then o else none, 9)
/-- both objects are made -/
def hZ (o : Option Nat) : Hp := i9_79 (nwA (i8_9 (nwA (h0 o) 9 18 19)) 79 19 55)
/-- the same but at 7 -/
def So (h h' : Hp) : Prop := hS h = hS h' ∧ hI h = hI h' ∧ hJ h = hJ h' ∧ hN h = hN h' ∧ ∀ a, a ≠ 7 → hR h a = hR h' a
theorem so_sR {h h' : Hp} {a i : Nat} {v : Option Nat} (x : So h h') : So (sR h a i v) (sR h' a i v) := by
  refine ⟨x.1, x.2.1, x.2.2.1, x.2.2.2.1, fun b hb => ?_⟩
  rw [hR_sRr, hR_sRr]
  by_cases e : b = a
  · rw [if_pos e, if_pos e, x.2.2.2.2 a (by rw [← e]; exact hb)]
  · rw [if_neg e, if_neg e, x.2.2.2.2 b hb]
theorem so_sI {h h' : Hp} {a i : Nat} {v : Int32} (x : So h h') : So (sI h a i v) (sI h' a i v) := by
  refine ⟨x.1, ?_, x.2.2.1, x.2.2.2.1, x.2.2.2.2⟩
  funext b
  rw [hI_sIr, hI_sIr, x.2.1]
theorem so_sJ {h h' : Hp} {a i : Nat} {v : Int64} (x : So h h') : So (sJ h a i v) (sJ h' a i v) := by
  refine ⟨x.1, x.2.1, ?_, x.2.2.2.1, x.2.2.2.2⟩
  funext b
  rw [hJ_sJr, hJ_sJr, x.2.2.1]
theorem so_nwA {h h' : Hp} {a k n : Nat} (x : So h h') : So (nwA h a k n) (nwA h' a k n) := by
  refine ⟨?_, ?_, ?_, rfl, fun b hb => ?_⟩
  · funext b
    rw [hS_nwA, hS_nwA, x.1]
  · funext b
    rw [hI_nwA, hI_nwA, x.2.1]
  · have e := x.2.2.1
    show va_up h.2.2.1 a (fun _ => 0) = va_up h'.2.2.1 a (fun _ => 0)
    rw [show h.2.2.1 = h'.2.2.1 from e]
  · rw [hR_nwA, hR_nwA, x.2.2.2.2 b hb]
theorem so_h0 (o o' : Option Nat) : So (h0 o) (h0 o') := ⟨rfl, rfl, rfl, rfl, fun a ha => by
  funext j
  show (if a = 7 ∧ j = 0 then o else none) = (if a = 7 ∧ j = 0 then o' else none)
  rw [if_neg (fun q => ha q.1), if_neg (fun q => ha q.1)]⟩
set_option maxRecDepth 100000 in
theorem so_i7_10 {h h' : Hp} (x : So h h') : So (i7_10 h) (i7_10 h') := by
  unfold i7_10
  exact (so_sR (so_nwA (so_sR (so_nwA (so_sI (so_sR (so_nwA (so_sR (so_sI (so_sI (so_sI (so_nwA (so_sR (so_nwA (so_sR (so_sI (so_sI (so_sI (so_sI (so_sI (so_sI (so_sI (so_sI (so_nwA (so_sR (so_nwA (so_sR (so_nwA x))))))))))))))))))))))))))))
set_option maxRecDepth 100000 in
theorem so_i7_20 {h h' : Hp} (x : So h h') : So (i7_20 h) (i7_20 h') := by
  unfold i7_20
  exact (so_sR (so_nwA (so_sR (so_nwA (so_sI (so_sR (so_nwA (so_sR (so_sI (so_sI (so_sI (so_nwA (so_sR (so_nwA (so_sR (so_sI (so_sI (so_sI (so_sI (so_sI (so_sI (so_sI (so_sI (so_nwA (so_sR (so_nwA (so_sR (so_nwA x))))))))))))))))))))))))))))
set_option maxRecDepth 100000 in
theorem so_i7_29 {h h' : Hp} (x : So h h') : So (i7_29 h) (i7_29 h') := by
  unfold i7_29
  exact (so_sR (so_nwA (so_sR (so_nwA (so_sI (so_sR (so_nwA (so_sR (so_sI (so_sI (so_sI (so_nwA (so_sR (so_nwA (so_sR (so_sI (so_sI (so_sI (so_sI (so_sI (so_sI (so_sI (so_sI (so_nwA (so_sR (so_nwA (so_sR (so_nwA x))))))))))))))))))))))))))))
set_option maxRecDepth 100000 in
theorem so_i5_40 {h h' : Hp} (x : So h h') : So (i5_40 h) (i5_40 h') := by
  unfold i5_40
  exact (so_sI (so_sR (so_nwA (so_sR (so_nwA (so_sR (so_nwA (so_sR (so_nwA (so_sR (so_nwA (so_sR (so_nwA x)))))))))))))
set_option maxRecDepth 100000 in
theorem so_i0_48 {h h' : Hp} (x : So h h') : So (i0_48 h) (i0_48 h') := by
  unfold i0_48
  exact (so_sR (so_nwA (so_sR (so_nwA (so_sR (so_nwA (so_sR (so_nwA (so_sR (so_nwA x))))))))))
set_option maxRecDepth 100000 in
theorem so_i0_54 {h h' : Hp} (x : So h h') : So (i0_54 h) (i0_54 h') := by
  unfold i0_54
  exact (so_sR (so_nwA (so_sR (so_nwA (so_sR (so_nwA (so_sR (so_nwA (so_sR (so_nwA x))))))))))
set_option maxRecDepth 100000 in
theorem so_i3_60 {h h' : Hp} (x : So h h') : So (i3_60 h) (i3_60 h') := by
  unfold i3_60
  exact (so_sR (so_sI (so_sR (so_nwA (so_sR (so_nwA (so_sR (so_nwA x))))))))
set_option maxRecDepth 100000 in
theorem so_i1_64 {h h' : Hp} (x : So h h') : So (i1_64 h) (i1_64 h') := by
  unfold i1_64
  exact (so_sR (so_sR (so_nwA (so_sR (so_nwA (so_sR (so_nwA (so_sR (so_nwA x)))))))))
set_option maxRecDepth 100000 in
theorem so_i4_69 {h h' : Hp} (x : So h h') : So (i4_69 h) (i4_69 h') := by
  unfold i4_69
  exact (so_sR (so_nwA (so_sR (so_nwA (so_sR (so_nwA (so_sR (so_nwA x))))))))
set_option maxRecDepth 100000 in
theorem so_i6_74 {h h' : Hp} (x : So h h') : So (i6_74 h) (i6_74 h') := by
  unfold i6_74
  exact (so_sR (so_nwA (so_sR (so_nwA (so_sR (so_nwA x))))))
set_option maxRecDepth 100000 in
theorem so_i8_9 {h h' : Hp} (x : So h h') : So (i8_9 h) (i8_9 h') := by
  unfold i8_9
  exact (so_sR (so_nwA (so_sR (so_i6_74 (so_nwA (so_sR (so_i4_69 (so_nwA (so_sR (so_i1_64 (so_nwA (so_sR (so_i3_60 (so_nwA (so_sR (so_i0_54 (so_nwA (so_sR (so_i0_48 (so_nwA (so_sR (so_nwA (so_sI (so_sR (so_i5_40 (so_nwA (so_sR (so_nwA (so_sR (so_nwA (so_sR (so_sR (so_i7_29 (so_nwA (so_sR (so_i7_20 (so_nwA (so_nwA (so_sR (so_i7_10 (so_nwA x)))))))))))))))))))))))))))))))))))))))))
set_option maxRecDepth 100000 in
theorem so_i9_79 {h h' : Hp} (x : So h h') : So (i9_79 h) (i9_79 h') := by
  unfold i9_79
  exact (so_sI (so_sI (so_sR (so_nwA (so_sR (so_nwA (so_sR (so_nwA (so_sR (so_nwA (so_sR (so_nwA (so_sR (so_nwA (so_sR (so_nwA (so_sR (so_nwA (so_sR (so_nwA (so_sR (so_nwA (so_sR (so_nwA (so_sR (so_nwA (so_sR (so_nwA (so_sR (so_nwA (so_sR (so_sJ (so_sJ (so_sJ (so_sJ (so_nwA (so_sR (so_sJ (so_sJ (so_sJ (so_sJ (so_sJ (so_sJ (so_sJ (so_sJ (so_sJ (so_sJ (so_nwA (so_sR (so_nwA (so_sR (so_nwA (so_sR (so_nwA (so_sR (so_nwA (so_sR (so_nwA (so_sI (so_sR (so_nwA (so_sR (so_nwA (so_sR (so_nwA (so_sR (so_nwA (so_sR (so_nwA x)))))))))))))))))))))))))))))))))))))))))))))))))))))))))))))))))))))
theorem so_hZ (o o' : Option Nat) : So (hZ o) (hZ o') := so_i9_79 (so_nwA (so_i8_9 (so_nwA (so_h0 o o'))))
/-! what the heap holds, decided -/
set_option maxRecDepth 100000 in
theorem z_N : hN (hZ none) = 106 := rfl
set_option maxRecDepth 100000 in
theorem z_S : ∀ a, a < 106 → a ≠ 8 → hS (hZ none) a = shT a := by decide +kernel
theorem rfT_lt {a f : Nat} (h : rfT a f ≠ none) : a < 106 ∧ f < 55 := by
  unfold rfT at h
  split at h
  all_goals first
    | exact ⟨by omega, by omega⟩
    | exact absurd rfl h
set_option maxRecDepth 100000 in
theorem z_R : ∀ a, a < 106 → ∀ f, f < 55 → rfT a f ≠ none → hR (hZ none) a f = rfT a f := by decide +kernel
set_option maxRecDepth 100000 in
theorem z_ST : (hI (hZ none) 0 0 = 100 ∧ hI (hZ none) 0 1 = 0 ∧ hI (hZ none) 0 2 = 0 ∧ hI (hZ none) 0 3 = 0) ∧ (hI (hZ none) 1 0 = 220 ∧ hI (hZ none) 1 1 = 9 ∧ hI (hZ none) 1 2 = 9 ∧ hI (hZ none) 1 3 = 100) ∧ (hI (hZ none) 2 0 = 9 ∧ hI (hZ none) 2 1 = 9 ∧ hI (hZ none) 2 2 = 255) ∧ (hI (hZ none) 3 0 = 9 ∧ hI (hZ none) 3 1 = 1 ∧ hI (hZ none) 3 2 = 99) ∧ (∀ p, p < 6 → hJ (hZ none) 4 p = lN (woN.getD p 0)) ∧ (∀ i, i < 126 → hI (hZ none) 6 i = nI (wsB.getD i 0)) ∧ hR (hZ none) 19 0 = some 20 ∧ hR (hZ none) 19 1 = some 29 := by decide +kernel
set_option maxRecDepth 100000 in
theorem z_MC : (hJ (hZ none) 90 0 = 1167858 ∧ hJ (hZ none) 90 1 = 525908 ∧ hJ (hZ none) 90 2 = 273980692 ∧ hJ (hZ none) 90 3 = 113716 ∧ hJ (hZ none) 90 4 = 24282707 ∧ hJ (hZ none) 90 5 = 23569509 ∧ hJ (hZ none) 90 6 = 638407 ∧ hJ (hZ none) 90 7 = 12009203 ∧ hJ (hZ none) 90 8 = 22664236 ∧ hJ (hZ none) 90 9 = 758955) ∧ hJ (hZ none) 91 0 = 114292 ∧ hJ (hZ none) 91 1 = 6328499 ∧ hJ (hZ none) 91 2 = 67155 ∧ hJ (hZ none) 91 3 = 398995 := by decide +kernel
set_option maxRecDepth 100000 in
theorem z_LW : ∀ i, i < 6 → hR (hZ none) 16 i = none ∧ hR (hZ none) 26 i = none ∧ hR (hZ none) 35 i = none := by decide +kernel
set_option maxRecDepth 100000 in
/-- the row: no one is forced, one need; else nothing -/
theorem z_row : ∀ i, i < 180 → i ≠ 3 → i ≠ 5 → hI (hZ none) 81 i = 0 := by decide +kernel
set_option maxRecDepth 100000 in
theorem z_35 : hI (hZ none) 81 3 = -1 ∧ hI (hZ none) 81 5 = 1 := by decide +kernel
set_option maxRecDepth 100000 in
theorem z_s : (hI (hZ none) 10 0 = 0 ∧ hI (hZ none) 10 1 = 0 ∧ hI (hZ none) 10 9 = 0 ∧ hI (hZ none) 10 12 = 0 ∧ hI (hZ none) 10 14 = 0) ∧ hI (hZ none) 10 10 = -1 ∧ hI (hZ none) 10 6 = 0 ∧ hI (hZ none) 15 0 = 1 ∧ hI (hZ none) 15 1 = 0 ∧ hI (hZ none) 15 2 = 0 := by decide +kernel
set_option maxRecDepth 100000 in
theorem z_rows : (∀ i, i < 32 → hI (hZ none) 11 i = 0) ∧ (∀ i, i < 24 → hI (hZ none) 12 i = 0) ∧ (∀ i, i < 8 → hI (hZ none) 13 i = -1) ∧ ∀ i, i < 64 → hI (hZ none) 14 i = 0 := by decide +kernel
set_option maxRecDepth 100000 in
theorem z_rest : (hI (hZ none) 38 0 = 0 ∧ hI (hZ none) 83 0 = 0 ∧ hI (hZ none) 38 1 = 0 ∧ hI (hZ none) 83 1 = 0) ∧ (hI (hZ none) 9 4 = 0 ∧ hI (hZ none) 79 8 = 0) ∧ (hI (hZ none) 9 6 = hI (hZ none) 79 13 ∧ hI (hZ none) 9 7 = hI (hZ none) 79 6 ∧ hI (hZ none) 9 9 = hI (hZ none) 79 1) ∧ (hI (hZ none) 47 0 = hI (hZ none) 80 1 ∧ hI (hZ none) 47 1 = hI (hZ none) 80 2 ∧ hI (hZ none) 47 2 = hI (hZ none) 80 3 ∧ hI (hZ none) 47 3 = hI (hZ none) 80 5 ∧ hI (hZ none) 47 4 = hI (hZ none) 80 6) ∧ (hI (hZ none) 74 0 = 0 ∧ hI (hZ none) 74 1 = 0 ∧ hI (hZ none) 74 2 = 0) ∧ (hI (hZ none) 79 52 = 0 ∧ hI (hZ none) 79 53 = 0 ∧ hI (hZ none) 79 54 = 0) ∧ hI (hZ none) 9 10 = 0 := by decide +kernel
theorem n0 : nI 0 = 0 := nI_0
theorem z_WF (o : Option Nat) : WF (hZ o) := by
  have x := so_hZ o none
  refine ⟨by rw [x.2.2.2.1, z_N]; exact Nat.le_refl _, fun a ha hb => by rw [x.1]; exact z_S a ha hb, fun a f hf => ?_⟩
  obtain ⟨h1, h2⟩ := rfT_lt hf
  by_cases e : a = 7
  · subst e
    exact absurd rfl hf
  · rw [x.2.2.2.2 a e]
    exact z_R a h1 f h2 hf
theorem z_SR : SRv (hI (hZ none) 10) (hI (hZ none) 11) (hI (hZ none) 12) (hI (hZ none) 13) (hI (hZ none) 14) (hI (hZ none) 15) (hR (hZ none) 16) (hI (hZ none) 17) (hI (hZ none) 18) (LV (hZ none)) (hN (hZ none)) (hI (hZ none) 81) 0 0 0 0 0 (fun _ _ _ => none) := by
  obtain ⟨⟨s0, s1, s9, s12, s14⟩, s10, s6, t0, t1, t2⟩ := z_s
  obtain ⟨r11, r12, r13, r14⟩ := z_rows
  obtain ⟨f3, f5⟩ := z_35
  have f := z_row
  refine ⟨⟨⟨by omega, by omega, by omega, by omega, by omega⟩, ⟨by rw [s0, n0], by rw [s1, n0], by rw [s9, n0], by rw [s12, n0], by rw [s14, n0]⟩, by rw [f 0 (by omega) (by omega) (by omega), n0], by rw [f 1 (by omega) (by omega) (by omega), n0], by rw [f 2 (by omega) (by omega) (by omega), n0], by rw [f 8 (by omega) (by omega) (by omega), n0], by rw [f 9 (by omega) (by omega) (by omega), n0]⟩, ⟨by rw [s10, f3], Or.inl f3⟩, ⟨by rw [s6, f 4 (by omega) (by omega) (by omega)], 0, by omega, by rw [f 4 (by omega) (by omega) (by omega), n0]⟩, ⟨1, 0, 0, ⟨by rw [t0]; rfl, by rw [f5]; rfl, by omega⟩, ⟨by rw [t1, n0], by rw [f 6 (by omega) (by omega) (by omega), n0], by omega⟩, by rw [t2, n0], by rw [f 7 (by omega) (by omega) (by omega), n0], by omega⟩, ⟨fun i hi => ⟨by rw [r11 i hi, f _ (by omega) (by omega) (by omega)], 0, by omega, by rw [f _ (by omega) (by omega) (by omega), n0]⟩, fun a ha => ⟨0, by omega, by rw [f _ (by omega) (by omega) (by omega), n0]⟩⟩, fun p hp k hk => ⟨by rw [r12 _ (by omega), f _ (by omega) (by omega) (by omega)], 0, by omega, by rw [f _ (by omega) (by omega) (by omega), n0]⟩, ⟨fun p hp => absurd hp (by omega), fun p _ hp => r13 p hp⟩, fun i hi => ⟨by rw [r14 i hi, f _ (by omega) (by omega) (by omega)], 0, by omega, by rw [r14 i hi, n0]⟩, fun q hq => absurd hq (by omega), fun q hq => absurd hq (by omega), fun q hq => absurd hq (by omega)⟩
theorem z_LV (o : Option Nat) : LV (hZ o) = LV (hZ none) := by
  have x := so_hZ o none
  funext a
  simp only [LV, x.1, x.2.1, x.2.2.2.2 (106 + a) (by omega)]
theorem z_Inv (o : Option Nat) : Inv0 (hZ o) 0 0 0 0 0 (fun _ _ _ => none) ∧ hI (hZ o) 9 10 = 0 := by
  have x := so_hZ o none
  obtain ⟨⟨k1, k2, k3, k4⟩, ⟨l1, l2⟩, ⟨m1, m2, m3⟩, ⟨r0, r1, r2, r3, r4⟩, ⟨a0, a1, a2⟩, ⟨b0, b1, b2⟩, c0⟩ := z_rest
  have xI := x.2.1
  have xJ := x.2.2.1
  have xR := x.2.2.2.2
  refine ⟨⟨z_WF o, ?_, ⟨?_, ?_⟩, ?_, ?_, ?_, ?_, ?_, ?_⟩, by rw [xI]; exact c0⟩
  · unfold ST
    rw [xI, xJ, xR 19 (by decide)]
    exact z_ST
  · rw [xJ]
    exact z_MC
  · intro a ha i hi
    obtain ⟨q1, q2, q3⟩ := z_LW i hi
    rcases ha with rfl | rfl | rfl
    · rw [xR 16 (by decide)]; exact Or.inl q1
    · rw [xR 26 (by decide)]; exact Or.inl q2
    · rw [xR 35 (by decide)]; exact Or.inl q3
  · unfold SR0
    rw [xI, xR 16 (by decide), z_LV o, x.2.2.2.1]
    exact z_SR
  · rw [xI]
    exact ⟨by rw [k1, k2], by rw [k1]; exact zb_0, fun q => absurd (k1.symm.trans q) (by decide)⟩
  · rw [xI]
    exact ⟨by rw [k3, k4], by rw [k3]; exact zb_0, fun q => absurd (k3.symm.trans q) (by decide)⟩
  · rw [xI]
    exact ⟨0, by omega, by rw [l1, n0], by rw [l2, n0], fun j hj => absurd hj (by omega)⟩
  · rw [xI]
    exact ⟨m1, m2, m3, r0, r1, r2, r3, r4⟩
  · rw [xI, xJ]
    exact ⟨0, 0, 0, ⟨by omega, by omega, by omega⟩, ⟨by rw [a0, n0], by rw [a1, n0], by rw [a2, n0]⟩, ⟨by rw [b0, n0], by rw [b1, n0], by rw [b2, n0]⟩, fun _ => rfl, fun i hi => absurd hi (by omega), fun a ha => absurd ha (by omega)⟩
theorem z_inv1 (o : Option Nat) : Inv1 (hZ o) := ⟨0, 0, 0, 0, 0, _, (z_Inv o).1, CacV.zero (z_Inv o).2⟩
