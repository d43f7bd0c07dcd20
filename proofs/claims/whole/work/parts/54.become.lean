def becH (a b : Nat) (h : Hp) : Hp := wI (sI (wI (wI (wI (wI (sI (sI h a 0 (hI h b 0)) a 1 (hI h b 1)) (a + 1) (va_cpy (hI h (b + 1)) (hI h (a + 1)) 0 0 32)) (a + 2) (va_cpy (hI h (b + 2)) (hI h (a + 2)) 0 0 24)) (a + 3) (va_cpy (hI h (b + 3)) (hI h (a + 3)) 0 0 8)) (a + 4) (va_cpy (hI h (b + 4)) (hI h (a + 4)) 0 0 64)) a 6 (hI h b 6)) (a + 5) (va_cpy (hI h (b + 5)) (hI h (a + 5)) 0 0 3)
def becT (a b : Nat) (h : Hp) : Hp := sI (wI (sI (wI (sI (sI h a 9 (hI h b 9)) a 10 (hI h b 10)) (a + 7) (va_cpy (hI h (b + 7)) (hI h (a + 7)) 0 0 28)) a 12 (hI h b 12)) (a + 8) (va_cpy (hI h (b + 8)) (hI h (a + 8)) 0 0 8)) a 14 (hI h b 14)
theorem wR_self (h : Hp) (a : Nat) : wR h a (hR h a) = h := by
  show (h.1, h.2.1, h.2.2.1, va_up h.2.2.2.1 a (h.2.2.2.1 a), h.2.2.2.2) = h
  rw [show va_up h.2.2.2.1 a (h.2.2.2.1 a) = h.2.2.2.1 from by
    funext b
    by_cases e : b = a
    · subst e; exact if_pos rfl
    · exact if_neg e]
theorem WF_wRn {h : Hp} (w : WF h) {a : Nat} (ha : ∀ f, rfT a f = none) (g : Nat → Option Nat) : WF (wR h a g) := by
  refine ⟨w.1, w.2.1, fun b f hf => ?_⟩
  have hb : b ≠ a := fun e => hf (by rw [e]; exact ha f)
  rw [show hR (wR h a g) b = hR h b from if_neg hb]
  exact w.2.2 b f hf
section K15
variable {l : Launch} {E : Ev} {d : Nat} {Q : Option Value → Hp → Prop} {h : Hp}
theorem c_become_20_10 (w : WF h) (hl : ∀ i, i < 6 → hR h 16 i = none ∨ ∃ x, 9 ≤ x ∧ hR h 16 i = some x ∧ hS h x = (12, 3)) (hQ : ∀ g' : Nat → Option Nat, (∀ j, j < 6 → g' j = hR h 16 j) → Q none (becT 20 10 (wR (becH 20 10 h) 26 g'))) : GoM l E YX7_become (d + 1) 0 0 [.ref 20, .ref 10] h Q := by
  refine c_becA_20_10 w ?_
  have wh : WF (becH 20 10 h) := w
  have key := c_becL_20_10 (l := l) (E := E) (d := d) (Q := Q) (h := becH 20 10 h) wh hl 6 0 (hR (becH 20 10 h) 26) rfl (fun j hj => absurd hj (Nat.not_lt_zero j)) (fun g' hg => c_becB_20_10 (WF_wRn wh (fun _ => rfl) g') (hQ g' hg))
  rw [wR_self] at key
  exact key
theorem c_become_29_10 (w : WF h) (hl : ∀ i, i < 6 → hR h 16 i = none ∨ ∃ x, 9 ≤ x ∧ hR h 16 i = some x ∧ hS h x = (12, 3)) (hQ : ∀ g' : Nat → Option Nat, (∀ j, j < 6 → g' j = hR h 16 j) → Q none (becT 29 10 (wR (becH 29 10 h) 35 g'))) : GoM l E YX7_become (d + 1) 0 0 [.ref 29, .ref 10] h Q := by
  refine c_becA_29_10 w ?_
  have wh : WF (becH 29 10 h) := w
  have key := c_becL_29_10 (l := l) (E := E) (d := d) (Q := Q) (h := becH 29 10 h) wh hl 6 0 (hR (becH 29 10 h) 35) rfl (fun j hj => absurd hj (Nat.not_lt_zero j)) (fun g' hg => c_becB_29_10 (WF_wRn wh (fun _ => rfl) g') (hQ g' hg))
  rw [wR_self] at key
  exact key
theorem c_become_10_20 (w : WF h) (hl : ∀ i, i < 6 → hR h 26 i = none ∨ ∃ x, 9 ≤ x ∧ hR h 26 i = some x ∧ hS h x = (12, 3)) (hQ : ∀ g' : Nat → Option Nat, (∀ j, j < 6 → g' j = hR h 26 j) → Q none (becT 10 20 (wR (becH 10 20 h) 16 g'))) : GoM l E YX7_become (d + 1) 0 0 [.ref 10, .ref 20] h Q := by
  refine c_becA_10_20 w ?_
  have wh : WF (becH 10 20 h) := w
  have key := c_becL_10_20 (l := l) (E := E) (d := d) (Q := Q) (h := becH 10 20 h) wh hl 6 0 (hR (becH 10 20 h) 16) rfl (fun j hj => absurd hj (Nat.not_lt_zero j)) (fun g' hg => c_becB_10_20 (WF_wRn wh (fun _ => rfl) g') (hQ g' hg))
  rw [wR_self] at key
  exact key
theorem c_become_10_29 (w : WF h) (hl : ∀ i, i < 6 → hR h 35 i = none ∨ ∃ x, 9 ≤ x ∧ hR h 35 i = some x ∧ hS h x = (12, 3)) (hQ : ∀ g' : Nat → Option Nat, (∀ j, j < 6 → g' j = hR h 35 j) → Q none (becT 10 29 (wR (becH 10 29 h) 16 g'))) : GoM l E YX7_become (d + 1) 0 0 [.ref 10, .ref 29] h Q := by
  refine c_becA_10_29 w ?_
  have wh : WF (becH 10 29 h) := w
  have key := c_becL_10_29 (l := l) (E := E) (d := d) (Q := Q) (h := becH 10 29 h) wh hl 6 0 (hR (becH 10 29 h) 16) rfl (fun j hj => absurd hj (Nat.not_lt_zero j)) (fun g' hg => c_becB_10_29 (WF_wRn wh (fun _ => rfl) g') (hQ g' hg))
  rw [wR_self] at key
  exact key
end K15
