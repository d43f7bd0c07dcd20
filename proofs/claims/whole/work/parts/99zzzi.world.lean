/-! THE WORLD AT THE LAW'S START -/
section WO
variable {p : Program} {s : State} {m : MethodId} {meth : Method} {c : Code} {b L : Nat} {xs : Nat → Int32}
theorem arr_ty {s : State} {args : Array Value} {ty : FieldType} (hne : ∀ C, ty ≠ .object C) (h : (Cond.arrayClass ty).before args s = true) : ∃ cA : ClassId, ArrOfT s cA ty ∧ va_RA s cA ty := by
  obtain ⟨cA, kA, comp, h1, h2, h3⟩ := Cond.arrayClass_spec h
  refine ⟨cA, fun n z => ⟨fun k h => (by cases h), kA, h2, comp, h3⟩, ?_⟩
  cases ty <;> first | exact h1 | exact absurd rfl (hne _)
theorem arr_ob {s : State} {args : Array Value} {C : String} (h : (Cond.arrayOver (.object C)).before args s = true) : ∃ cA : ClassId, ArrOfT s cA (.object C) ∧ va_RA s cA (.object C) := by
  obtain ⟨comp, cA, kA, h1, h2, h3, h4, h5⟩ := Cond.arrayOver_spec h
  exact ⟨cA, fun n z => ⟨fun k h => (by cases h), kA, h3, comp, h4⟩, kA, comp, h3, h4, h1, h5⟩
theorem va_T.lt {ty : FieldType} {t N : Nat} {f : Nat → Value} {A : Nat → Prop} {U : State} {H : Heap} (h : va_T ty t N f A U H) : t < H.size := by
  obtain ⟨cell, h1, -⟩ := h
  exact (Array.getElem?_eq_some_iff.mp h1).1
abbrev tmS (C n d : String) : Term := .static C n d
/-- what is given of the static rows -/
theorem gw_0 : Cond.arrayOf (tmS RX8 "ACTOR_LOW" "[I") .int ∈ flatC (.and given_1 narrow_1) ∧ Cond.eq (.length (tmS RX8 "ACTOR_LOW" "[I")) (.int 4) ∈ flatC (.and given_1 narrow_1) ∧ ∀ j, j < 4 → Cond.eq (.elem (tmS RX8 "ACTOR_LOW" "[I") (.int (Int32.ofNat j))) (.int (stI 0 j)) ∈ flatC (.and given_1 narrow_1) := by decide +kernel
theorem gw_1 : Cond.arrayOf (tmS RX8 "ACTOR_HIGH" "[I") .int ∈ flatC (.and given_1 narrow_1) ∧ Cond.eq (.length (tmS RX8 "ACTOR_HIGH" "[I")) (.int 4) ∈ flatC (.and given_1 narrow_1) ∧ ∀ j, j < 4 → Cond.eq (.elem (tmS RX8 "ACTOR_HIGH" "[I") (.int (Int32.ofNat j))) (.int (stI 1 j)) ∈ flatC (.and given_1 narrow_1) := by decide +kernel
theorem gw_2 : Cond.arrayOf (tmS RX8 "PART_HIGH" "[I") .int ∈ flatC (.and given_1 narrow_1) ∧ Cond.eq (.length (tmS RX8 "PART_HIGH" "[I")) (.int 3) ∈ flatC (.and given_1 narrow_1) ∧ ∀ j, j < 3 → Cond.eq (.elem (tmS RX8 "PART_HIGH" "[I") (.int (Int32.ofNat j))) (.int (stI 2 j)) ∈ flatC (.and given_1 narrow_1) := by decide +kernel
theorem gw_3 : Cond.arrayOf (tmS RX8 "TERM_HIGH" "[I") .int ∈ flatC (.and given_1 narrow_1) ∧ Cond.eq (.length (tmS RX8 "TERM_HIGH" "[I")) (.int 3) ∈ flatC (.and given_1 narrow_1) ∧ ∀ j, j < 3 → Cond.eq (.elem (tmS RX8 "TERM_HIGH" "[I") (.int (Int32.ofNat j))) (.int (stI 3 j)) ∈ flatC (.and given_1 narrow_1) := by decide +kernel
theorem gw_4 : Cond.arrayOf (tmS RX1 "WITHOUT" "[J") .long ∈ flatC (.and given_1 narrow_1) ∧ Cond.eq (.length (tmS RX1 "WITHOUT" "[J")) (.int 6) ∈ flatC (.and given_1 narrow_1) ∧ ∀ j, j < 6 → Cond.eq (.elem (tmS RX1 "WITHOUT" "[J") (.int (Int32.ofNat j))) (.long (stJ 4 j)) ∈ flatC (.and given_1 narrow_1) := by decide +kernel
abbrev tmW : Term := .string RX5 96
theorem gw_5 : Cond.exactly tmW "java/lang/String" ∈ flatC (.and given_1 narrow_1) ∧ Cond.eq (.field tmW "java/lang/String" "coder" "B") (.int 0) ∈ flatC (.and given_1 narrow_1) ∧ Cond.arrayOf (.field tmW "java/lang/String" "value" "[B") .byte ∈ flatC (.and given_1 narrow_1) ∧ Cond.eq (.length (.field tmW "java/lang/String" "value" "[B")) (.int (Int32.ofNat 126)) ∈ flatC (.and given_1 narrow_1) := by decide +kernel
theorem gw_6 : ∀ j, j < 126 → Cond.eq (.elem (.field tmW "java/lang/String" "value" "[B") (.int (Int32.ofNat j))) (.int ((wsB.map nI).getD j 0)) ∈ flatC (.and given_1 narrow_1) := by decide +kernel
theorem gw_7 : Cond.eq (tmS "java/lang/String" "COMPACT_STRINGS" "Z") (.int 1) ∈ flatC (.and given_1 narrow_1) ∧ Cond.isRef (tmS "jdk/internal/util/Preconditions" "SIOOBE_FORMATTER" "Ljava/util/function/BiFunction;") ∈ flatC (.and given_1 narrow_1) := by decide +kernel
theorem wsB_get : ∀ j, j < 126 → (wsB.map nI).getD j 0 = stI 6 j := by decide +kernel
/-- words of the tables -/
theorem tw_ls : Cond.laysStatic RX8 "ACTOR_LOW" "[I" ∈ lw_tbl ∧ Cond.laysStatic RX8 "ACTOR_HIGH" "[I" ∈ lw_tbl ∧ Cond.laysStatic RX8 "PART_HIGH" "[I" ∈ lw_tbl ∧ Cond.laysStatic RX8 "TERM_HIGH" "[I" ∈ lw_tbl ∧ Cond.laysStatic RX1 "WITHOUT" "[J" ∈ lw_tbl ∧ Cond.laysStatic "java/lang/String" "COMPACT_STRINGS" "Z" ∈ lw_tbl ∧ Cond.laysStatic "jdk/internal/util/Preconditions" "SIOOBE_FORMATTER" "Ljava/util/function/BiFunction;" ∈ lw_tbl := by decide +kernel
theorem tw_in : Cond.initialized RX8 ∈ lw_tbl ∧ Cond.initialized RX1 ∈ lw_tbl ∧ Cond.initialized "java/lang/String" ∈ lw_tbl ∧ Cond.initialized "jdk/internal/util/Preconditions" ∈ lw_tbl := by decide +kernel
theorem tw_ar : Cond.arrayClass .int ∈ lw_tbl ∧ Cond.arrayClass .long ∈ lw_tbl ∧ Cond.arrayClass .boolean ∈ lw_tbl ∧ Cond.arrayOver (.object "IllTonight$Law") ∈ lw_tbl ∧ Cond.arrayOver (.object "IllTonight$State") ∈ lw_tbl := by decide +kernel
theorem tw_cl : Cond.instantiable RX0 7 ∈ lw_tbl ∧ Cond.instantiable RX1 7 ∈ lw_tbl ∧ Cond.instantiable RX2 3 ∈ lw_tbl ∧ Cond.instantiable RX3 10 ∈ lw_tbl ∧ Cond.instantiable RX4 5 ∈ lw_tbl ∧ Cond.instantiable RX5 12 ∈ lw_tbl ∧ Cond.instantiable RX6 7 ∈ lw_tbl ∧ Cond.instantiable RX7 15 ∈ lw_tbl ∧ Cond.instantiable RX8 19 ∈ lw_tbl ∧ Cond.instantiable RX9 55 ∈ lw_tbl := by decide +kernel
theorem tw_ne : (∀ q ∈ nestL, Cond.methodLinkNest q.1 q.2.1 q.2.2.1 q.2.2.2 ∈ lw_tbl) ∧ Cond.stringRef RX5 96 txW ∈ lw_tbl ∧ Cond.castable "[I" "java/lang/Cloneable" ∈ lw_tbl := by decide +kernel
/-- the class numbers -/
theorem law_cls {args : Array Value} (hts : ∀ w ∈ lw_tbl, w.before args s = true) : ∃ (dC : Nat → ClassId) (dI : Nat → Nat → Nat), ∀ (k : Nat) (q : vw_C), vwCl[k]? = some q → u_Kn s q.1 q.2.1 q.2.2 (dC k) (dI k) := by
  obtain ⟨w0, w1, w2, w3, w4, w5, w6, w7, w8, w9⟩ := tw_cl
  obtain ⟨c0, i0, k0⟩ := u_known (C := RX0) (T := TX0) (N := 7) hts ixX0 (hts _ w0)
  obtain ⟨c1, i1, k1⟩ := u_known (C := RX1) (T := TX1) (N := 7) hts ixX1 (hts _ w1)
  obtain ⟨c2, i2, k2⟩ := u_known (C := RX2) (T := TX2) (N := 3) hts ixX2 (hts _ w2)
  obtain ⟨c3, i3, k3⟩ := u_known (C := RX3) (T := TX3) (N := 10) hts ixX3 (hts _ w3)
  obtain ⟨c4, i4, k4⟩ := u_known (C := RX4) (T := TX4) (N := 5) hts ixX4 (hts _ w4)
  obtain ⟨c5, i5, k5⟩ := u_known (C := RX5) (T := TX5) (N := 12) hts ixX5 (hts _ w5)
  obtain ⟨c6, i6, k6⟩ := u_known (C := RX6) (T := TX6) (N := 7) hts ixX6 (hts _ w6)
  obtain ⟨c7, i7, k7⟩ := u_known (C := RX7) (T := TX7) (N := 15) hts ixX7 (hts _ w7)
  obtain ⟨c8, i8, k8⟩ := u_known (C := RX8) (T := TX8) (N := 19) hts ixX8 (hts _ w8)
  obtain ⟨c9, i9, k9⟩ := u_known (C := RX9) (T := TX9) (N := 55) hts ixX9 (hts _ w9)
  refine ⟨fun k => [c0, c1, c2, c3, c4, c5, c6, c7, c8, c9].getD k c0, fun k => [i0, i1, i2, i3, i4, i5, i6, i7, i8, i9].getD k i0, fun k q hq => ?_⟩
  match k, hq with
  | 0, hq => cases hq; exact k0
  | 1, hq => cases hq; exact k1
  | 2, hq => cases hq; exact k2
  | 3, hq => cases hq; exact k3
  | 4, hq => cases hq; exact k4
  | 5, hq => cases hq; exact k5
  | 6, hq => cases hq; exact k6
  | 7, hq => cases hq; exact k7
  | 8, hq => cases hq; exact k8
  | 9, hq => cases hq; exact k9
  | k + 10, hq => simp at hq
theorem stc_i {E : Ev} {U : State} {h : Hp} {H : Heap} {q N : Nat} {A : Nat → Prop} (hs : hS h q = (1, N)) (x : va_T .int (E.2.1 q) N (fun j => .int (hI h q j)) A U H) : stC E U h H q := by
  obtain ⟨cell, a1, a2, a3, a4, a5, a6, -⟩ := x
  unfold stC
  rw [hs]
  exact ⟨cell, a1, a2, a3, a4, a5, a6⟩
theorem stc_j {E : Ev} {U : State} {h : Hp} {H : Heap} {q N : Nat} {A : Nat → Prop} (hs : hS h q = (2, N)) (x : va_T .long (E.2.1 q) N (fun j => .long (hJ h q j)) A U H) : stC E U h H q := by
  obtain ⟨cell, a1, a2, a3, a4, a5, a6, -⟩ := x
  unfold stC
  rw [hs]
  exact ⟨cell, a1, a2, a3, a4, a5, a6⟩
theorem stc_b {E : Ev} {U : State} {h : Hp} {H : Heap} {q N : Nat} {A : Nat → Prop} (hs : hS h q = (6, N)) (x : va_T .byte (E.2.1 q) N (fun j => .int (hI h q j)) A U H) : stC E U h H q := by
  obtain ⟨cell, a1, a2, a3, a4, a5, a6, -⟩ := x
  unfold stC
  rw [hs]
  exact ⟨cell, a1, a2, a3, a4, a5, a6⟩
theorem stc_0 {E : Ev} {U : State} {h : Hp} {H : Heap} {q : Nat} (hs : (hS h q).1 = 0 ∨ (hS h q).1 = 30 ∨ (hS h q).1 = 31) : stC E U h H q := by
  unfold stC
  rcases hs with e | e | e <;> rw [e] <;> trivial
set_option maxRecDepth 100000 in
theorem law_world (C0 : lw_At p s m meth c b L xs) : ∃ (E : Ev) (o : Option Nat), E.2.1 8 = b ∧ E.1 = s.heap.size ∧ EK E s ∧ Rep E s (h0 o) s.heap := by
  obtain ⟨hx, hb, hr, hml, hown, hts, hX, hbl, hlocks, hgv⟩ := C0
  have hs := flat_of_before _ hgv
  obtain ⟨dC, dI, hcl⟩ := law_cls hts
  obtain ⟨A, hAe⟩ : ∃ A : Nat → Prop, A = fun a => s.heap.size ≤ a := ⟨_, rfl⟩
  have hA : ∀ a : Nat, a < s.heap.size → ¬ A a := fun a h => by rw [hAe]; exact Nat.not_le.mpr h
  obtain ⟨ls0, ls1, ls2, ls3, ls4, ls5, ls6⟩ := tw_ls
  obtain ⟨in8, in1, inS, inP⟩ := tw_in
  obtain ⟨ar1, ar2, ar3, ar4, ar5⟩ := tw_ar
  obtain ⟨ne1, ne2, ne3⟩ := tw_ne
  obtain ⟨cI, aI⟩ := arr_ty (fun _ q => by cases q) (hts _ ar1)
  obtain ⟨cJ, aJ⟩ := arr_ty (fun _ q => by cases q) (hts _ ar2)
  obtain ⟨cZ, aZ⟩ := arr_ty (fun _ q => by cases q) (hts _ ar3)
  obtain ⟨cL, aL⟩ := arr_ob (hts _ ar4)
  obtain ⟨cS, aS⟩ := arr_ob (hts _ ar5)
  obtain ⟨t0, e0, T0⟩ := va_Tof (ty := .int) (N := 4) (f := fun j => .int (stI 0 j)) (A := A) (by decide) (hs _ gw_0.1) (va_eqt (hs _ gw_0.2.1)) (fun j hj => va_eqt (hs _ (gw_0.2.2 j hj))) hA
  obtain ⟨t1, e1, T1⟩ := va_Tof (ty := .int) (N := 4) (f := fun j => .int (stI 1 j)) (A := A) (by decide) (hs _ gw_1.1) (va_eqt (hs _ gw_1.2.1)) (fun j hj => va_eqt (hs _ (gw_1.2.2 j hj))) hA
  obtain ⟨t2, e2, T2⟩ := va_Tof (ty := .int) (N := 3) (f := fun j => .int (stI 2 j)) (A := A) (by decide) (hs _ gw_2.1) (va_eqt (hs _ gw_2.2.1)) (fun j hj => va_eqt (hs _ (gw_2.2.2 j hj))) hA
  obtain ⟨t3, e3, T3⟩ := va_Tof (ty := .int) (N := 3) (f := fun j => .int (stI 3 j)) (A := A) (by decide) (hs _ gw_3.1) (va_eqt (hs _ gw_3.2.1)) (fun j hj => va_eqt (hs _ (gw_3.2.2 j hj))) hA
  obtain ⟨t4, e4, T4⟩ := va_Tof (ty := .long) (N := 6) (f := fun j => .long (stJ 4 j)) (A := A) (by decide) (hs _ gw_4.1) (va_eqt (hs _ gw_4.2.1)) (fun j hj => va_eqtl (hs _ (gw_4.2.2 j hj))) hA
  have Z0 := va_Zref (A := A) (hts _ ls0) (hts _ in8) e0 hA
  have Z1 := va_Zref (A := A) (hts _ ls1) (hts _ in8) e1 hA
  have Z2 := va_Zref (A := A) (hts _ ls2) (hts _ in8) e2 hA
  have Z3 := va_Zref (A := A) (hts _ ls3) (hts _ in8) e3 hA
  have Z4 := va_Zref (A := A) (hts _ ls4) (hts _ in1) e4 hA
  have Z5 := va_Zof (A := A) (hts _ ls5) (hts _ inS) (va_eqt (hs _ gw_7.1)) hA
  have Z6 := va_Zqof (A := A) (hts _ ls6) (hts _ inP) (hs _ gw_7.2) hA
  obtain ⟨adK, adV, hS5, hev⟩ := vk_Sof (N := 1) (tm := fun _ => tmW) (len := [126]) (byt := [wsB.map nI]) (A := A) (s := s) (args := #[Value.ref b]) (fun i hi => by rw [show i = 0 by omega]; decide) (fun i _ => hs _ gw_5.1) (fun i _ => hs _ gw_5.2.1) (fun i _ => hs _ gw_5.2.2.1) (fun i hi => by rw [show i = 0 by omega]; exact hs _ gw_5.2.2.2) (fun i hi j hj => by
    rw [show i = 0 by omega] at hj ⊢
    exact hs _ (gw_6 j hj)) (fun i j hi hj hij => absurd (show i = j by omega) hij) hA
  obtain ⟨O5, F5, G5, T6⟩ := hS5.1 0 (by decide)
  have K5 := hev 0 (by decide)
  have lt5 : adK 0 < s.heap.size := by
    obtain ⟨cell, h1, -⟩ := O5
    exact (Array.getElem?_eq_some_iff.mp h1).1
  have T6' : va_T .byte (adV 0) 126 (fun j => .int (stI 6 j)) A s s.heap := by
    obtain ⟨cell, a1, a2, a3, a4, a5, a6, a7⟩ := T6
    exact ⟨cell, a1, a2, a3, a4, a5, fun j hj => by
      show cell.slots[j]? = some (Value.int (stI 6 j))
      rw [← wsB_get j hj]
      exact a6 j hj, a7⟩
  -- the formatter
  obtain ⟨t7, o, lt7, Z7⟩ : ∃ (t7 : Nat) (o : Option Nat), t7 < s.heap.size ∧ ((o = none ∧ va_Z "jdk/internal/util/Preconditions" "SIOOBE_FORMATTER" "Ljava/util/function/BiFunction;" .null A s s.heap) ∨ (o = some 7 ∧ va_Z "jdk/internal/util/Preconditions" "SIOOBE_FORMATTER" "Ljava/util/function/BiFunction;" (.ref t7) A s s.heap) ∨ ∃ k : Nat, o = some (9 + k) ∧ va_Z "jdk/internal/util/Preconditions" "SIOOBE_FORMATTER" "Ljava/util/function/BiFunction;" (.ref (s.heap.size + k)) A s s.heap) := by
    rcases Z6 with z | ⟨t, z⟩
    · exact ⟨b, none, hbl, Or.inl ⟨rfl, z⟩⟩
    · by_cases q : t < s.heap.size
      · exact ⟨t, some 7, q, Or.inr (Or.inl ⟨rfl, z⟩)⟩
      · refine ⟨b, some (9 + (t - s.heap.size)), hbl, Or.inr (Or.inr ⟨t - s.heap.size, rfl, ?_⟩)⟩
        rw [show s.heap.size + (t - s.heap.size) = t by omega]
        exact z
  have lt0 := T0.lt
  have lt1 := T1.lt
  have lt2 := T2.lt
  have lt3 := T3.lt
  have lt4 := T4.lt
  have lt6 := T6'.lt
  subst hAe
  obtain ⟨E, hE⟩ : ∃ E : Ev, E = (s.heap.size, fun q => [t0, t1, t2, t3, t4, adK 0, adV 0, t7, b].getD q b, (dC, dI), fun k => [cI, cI, cJ, cZ, cL, cS].getD k cI) := ⟨_, rfl⟩
  have E1 : E.1 = s.heap.size := by rw [hE]
  have a0 : E.2.1 0 = t0 := by rw [hE]; rfl
  have a1 : E.2.1 1 = t1 := by rw [hE]; rfl
  have a2 : E.2.1 2 = t2 := by rw [hE]; rfl
  have a3 : E.2.1 3 = t3 := by rw [hE]; rfl
  have a4 : E.2.1 4 = t4 := by rw [hE]; rfl
  have a5 : E.2.1 5 = adK 0 := by rw [hE]; rfl
  have a6 : E.2.1 6 = adV 0 := by rw [hE]; rfl
  have a7 : E.2.1 7 = t7 := by rw [hE]; rfl
  have a8 : E.2.1 8 = b := by rw [hE]; rfl
  have aG : E.2.2.1 = (dC, dI) := by rw [hE]
  have k1 : E.2.2.2 1 = cI := by rw [hE]; rfl
  have k2 : E.2.2.2 2 = cJ := by rw [hE]; rfl
  have k3 : E.2.2.2 3 = cZ := by rw [hE]; rfl
  have k4 : E.2.2.2 4 = cL := by rw [hE]; rfl
  have k5 : E.2.2.2 5 = cS := by rw [hE]; rfl
  clear hE
  refine ⟨E, o, a8, E1, ⟨⟨by rw [aG]; exact hcl, ?_⟩, ?_, fun q hq => va_Nw.of rfl (hts _ (ne1 q hq)), va_AO.of (hts _ ar4), va_AO.of (hts _ ar5), by rw [a5]; exact vk_R.of (hts _ ne2) K5, va_Nw.of rfl (hts _ ne3)⟩, Nat.le_refl 9, by rw [E1]; rfl, fun q h1 h2 => absurd h1 (Nat.not_le.mpr h2), fun q h1 => ?_, fun q hq => ?_, ?_⟩
  · intro k q hq
    unfold tysE at hq
    rw [k1, k2, k3, k4, k5] at hq
    match k, hq with
    | 0, hq => cases hq; exact aI
    | 1, hq => cases hq; exact aJ
    | 2, hq => cases hq; exact aZ
    | 3, hq => cases hq; exact aL
    | 4, hq => cases hq; exact aS
    | k + 5, hq => simp at hq
  · intro q hq
    rw [E1]
    match q, hq with
    | 0, _ => rw [a0]; exact lt0
    | 1, _ => rw [a1]; exact lt1
    | 2, _ => rw [a2]; exact lt2
    | 3, _ => rw [a3]; exact lt3
    | 4, _ => rw [a4]; exact lt4
    | 5, _ => rw [a5]; exact lt5
    | 6, _ => rw [a6]; exact lt6
    | 7, _ => rw [a7]; exact lt7
    | 8, _ => rw [a8]; exact hbl
    | q + 9, hq => exact absurd hq (by omega)
  · have h1 : 9 ≤ q := h1
    show (if q < 9 then shT q else (0, 0)).1 = 0
    rw [if_neg (by omega)]
  · match q, hq with
    | 0, _ => exact stc_i (N := 4) rfl (by rw [a0]; exact T0)
    | 1, _ => exact stc_i (N := 4) rfl (by rw [a1]; exact T1)
    | 2, _ => exact stc_i (N := 3) rfl (by rw [a2]; exact T2)
    | 3, _ => exact stc_i (N := 3) rfl (by rw [a3]; exact T3)
    | 4, _ => exact stc_j (N := 6) rfl (by rw [a4]; exact T4)
    | 5, _ => exact stc_0 (Or.inr (Or.inl rfl))
    | 6, _ => exact stc_b (N := 126) rfl (by rw [a6]; exact T6')
    | 7, _ => exact stc_0 (Or.inr (Or.inr rfl))
    | 8, _ => exact stc_0 (Or.inl rfl)
    | q + 9, hq => exact absurd hq (by omega)
  · unfold StF
    rw [E1]
    refine ⟨fun q hq => ?_, Z5, ?_, by rw [a5]; exact O5, by rw [a5]; exact F5, by rw [a5, a6]; exact G5⟩
    · simp only [statL, List.mem_cons, List.not_mem_nil, or_false] at hq
      rcases hq with rfl | rfl | rfl | rfl | rfl
      · show va_Z _ _ _ (.ref (E.2.1 0)) _ _ _
        rw [a0]; exact Z0
      · show va_Z _ _ _ (.ref (E.2.1 1)) _ _ _
        rw [a1]; exact Z1
      · show va_Z _ _ _ (.ref (E.2.1 2)) _ _ _
        rw [a2]; exact Z2
      · show va_Z _ _ _ (.ref (E.2.1 3)) _ _ _
        rw [a3]; exact Z3
      · show va_Z _ _ _ (.ref (E.2.1 4)) _ _ _
        rw [a4]; exact Z4
    · have e7 : hR (h0 o) 7 0 = o := by
        show (if (7 : Nat) = 7 ∧ (0 : Nat) = 0 then o else none) = o
        exact if_pos ⟨rfl, rfl⟩
      rw [e7]
      rcases Z7 with ⟨rfl, z⟩ | ⟨rfl, z⟩ | ⟨k, rfl, z⟩
      · exact z
      · show va_Z _ _ _ (.ref (ad E 7)) _ _ _
        rw [ad_st (by decide), a7]
        exact z
      · show va_Z _ _ _ (.ref (ad E (9 + k))) _ _ _
        rw [ad_own (by omega), E1, Nat.add_sub_cancel_left]
        exact z
end WO
