/-! Math.max, Math.min: the kit's own rows -/
section MTH
variable {l : Launch} {E : Ev} {Y : My} {d mc ms cells slots pc : Nat} {Q : Option Value → Hp → Prop} {k : Kt}
def k_mmax (k : Kt) (ls : Lv) (st : List Value) (h : Hp) : Prop := pop2i st fun y x r => catS r ≤ 8 ∧ k ls (.int (if x < y then y else x) :: r) h
theorem sd_mmax {i : Nat} (m1 : Cond.methodLink Y.1.cls i Lib.Math.max.name ∈ lw_tbl) (m2 : Cond.static Lib.Math.max.name ∈ lw_tbl) (m3 : Cond.initialized "java/lang/Math" ∈ lw_tbl) (m4 : Cond.code Lib.Math.max.name Lib.Math.max.code 2 (some .int) ∈ lw_tbl) (hdd : 1 ≤ d) (hc : cells ≤ mc) (hs : slots ≤ ms) (hd : decode Y.2.1 pc = .ok (.invokestatic i, 3)) (hk : Sd l E Y d mc ms Q cells slots (pc + 3) k) : Sd l E Y d mc ms Q cells slots pc (k_mmax k) := by
  intro ls st h hK p e s m args below meth c C H locs lsm rp sv hL
  obtain ⟨y, x, r, rfl, hcat, hK⟩ := pop2i_inv hK
  exact va_mmax C.1 C.2.1 (C.2.2.2.1.trans hL.1.symm) C.2.2.2.2.1 (C.w m1 rfl) (C.w m2 rfl) (C.w m3 rfl) (C.w m4 rfl) hdd (by rw [catS_mv]; show _ ≤ 64 * d; omega) hc hs hd (hk _ _ _ hK p e s m args below meth c C H locs lsm rp sv hL)
def k_mmin (k : Kt) (ls : Lv) (st : List Value) (h : Hp) : Prop := pop2i st fun y x r => catS r ≤ 8 ∧ k ls (.int (if y < x then y else x) :: r) h
theorem sd_mmin {i : Nat} (m1 : Cond.methodLink Y.1.cls i Lib.Math.min.name ∈ lw_tbl) (m2 : Cond.static Lib.Math.min.name ∈ lw_tbl) (m3 : Cond.initialized "java/lang/Math" ∈ lw_tbl) (m4 : Cond.code Lib.Math.min.name Lib.Math.min.code 2 (some .int) ∈ lw_tbl) (hdd : 1 ≤ d) (hc : cells ≤ mc) (hs : slots ≤ ms) (hd : decode Y.2.1 pc = .ok (.invokestatic i, 3)) (hk : Sd l E Y d mc ms Q cells slots (pc + 3) k) : Sd l E Y d mc ms Q cells slots pc (k_mmin k) := by
  intro ls st h hK p e s m args below meth c C H locs lsm rp sv hL
  obtain ⟨y, x, r, rfl, hcat, hK⟩ := pop2i_inv hK
  exact va_mmin C.1 C.2.1 (C.2.2.2.1.trans hL.1.symm) C.2.2.2.2.1 (C.w m1 rfl) (C.w m2 rfl) (C.w m3 rfl) (C.w m4 rfl) hdd (by rw [catS_mv]; show _ ≤ 64 * d; omega) hc hs hd (hk _ _ _ hK p e s m args below meth c C H locs lsm rp sv hL)
def k_mminl (k : Kt) (ls : Lv) (st : List Value) (h : Hp) : Prop := pop2l st fun y x r => catS r ≤ 8 ∧ k ls (.long (if y < x then y else x) :: r) h
theorem sd_mminl {i : Nat} (m1 : Cond.methodLink Y.1.cls i Lib.MathLoose.min_long.x ∈ lw_tbl) (m2 : Cond.static Lib.MathLoose.min_long.x ∈ lw_tbl) (m3 : Cond.initialized "java/lang/Math" ∈ lw_tbl) (m4 : Cond.code Lib.MathLoose.min_long.x Lib.MathLoose.min_long.code 4 (some .long) ∈ lw_tbl) (hdd : 1 ≤ d) (hc : cells ≤ mc) (hs : slots ≤ ms) (hd : decode Y.2.1 pc = .ok (.invokestatic i, 3)) (hk : Sd l E Y d mc ms Q cells slots (pc + 3) k) : Sd l E Y d mc ms Q cells slots pc (k_mminl k) := by
  intro ls st h hK p e s m args below meth c C H locs lsm rp sv hL
  obtain ⟨y, x, r, rfl, hcat, hK⟩ := pop2l_inv hK
  exact va_mmin_long C.1 C.2.1 (C.2.2.2.1.trans hL.1.symm) C.2.2.2.2.1 (C.w m1 rfl) (C.w m2 rfl) (C.w m3 rfl) (C.w m4 rfl) hdd (by rw [catS_mv]; show _ ≤ 64 * d; omega) hc hs hd (hk _ _ _ hK p e s m args below meth c C H locs lsm rp sv hL)
end MTH
