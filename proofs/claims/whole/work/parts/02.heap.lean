/-! THE PURE HEAP: by pure address a shape (kind, length), ints, longs, references; how many cells.
kinds: 0 nothing, 1 int[], 2 long[], 3 boolean[], 4 Law[], 5 State[], 6 byte[], 10 + c an object of the c-th of vwCl, 30 a text -/
abbrev Hp : Type := (Nat → Nat × Nat) × (Nat → Nat → Int32) × (Nat → Nat → Int64) × (Nat → Nat → Option Nat) × Nat
def hS (h : Hp) (a : Nat) : Nat × Nat := h.1 a
def hI (h : Hp) (a : Nat) : Nat → Int32 := h.2.1 a
def hJ (h : Hp) (a : Nat) : Nat → Int64 := h.2.2.1 a
def hR (h : Hp) (a : Nat) : Nat → Option Nat := h.2.2.2.1 a
def hN (h : Hp) : Nat := h.2.2.2.2
def wI (h : Hp) (a : Nat) (f : Nat → Int32) : Hp := (h.1, va_up h.2.1 a f, h.2.2)
def wJ (h : Hp) (a : Nat) (f : Nat → Int64) : Hp := (h.1, h.2.1, va_up h.2.2.1 a f, h.2.2.2)
def wR (h : Hp) (a : Nat) (f : Nat → Option Nat) : Hp := (h.1, h.2.1, h.2.2.1, va_up h.2.2.2.1 a f, h.2.2.2.2)
def sI (h : Hp) (a i : Nat) (v : Int32) : Hp := wI h a (va_up (hI h a) i v)
def sJ (h : Hp) (a i : Nat) (v : Int64) : Hp := wJ h a (va_up (hJ h a) i v)
def sR (h : Hp) (a i : Nat) (v : Option Nat) : Hp := wR h a (va_up (hR h a) i v)
def nw (h : Hp) (k n : Nat) : Hp := (va_up h.1 (hN h) (k, n), va_up h.2.1 (hN h) (fun _ => 0), va_up h.2.2.1 (hN h) (fun _ => 0), va_up h.2.2.2.1 (hN h) (fun _ => none), hN h + 1)
theorem hS_wI (h : Hp) (a b : Nat) (f : Nat → Int32) : hS (wI h a f) b = hS h b := rfl
theorem hS_wJ (h : Hp) (a b : Nat) (f : Nat → Int64) : hS (wJ h a f) b = hS h b := rfl
theorem hS_wR (h : Hp) (a b : Nat) (f : Nat → Option Nat) : hS (wR h a f) b = hS h b := rfl
theorem hN_wI (h : Hp) (a : Nat) (f : Nat → Int32) : hN (wI h a f) = hN h := rfl
theorem hN_wJ (h : Hp) (a : Nat) (f : Nat → Int64) : hN (wJ h a f) = hN h := rfl
theorem hN_wR (h : Hp) (a : Nat) (f : Nat → Option Nat) : hN (wR h a f) = hN h := rfl
theorem hI_wI (h : Hp) (a b : Nat) (f : Nat → Int32) : hI (wI h a f) b = if b = a then f else hI h b := rfl
theorem hI_wJ (h : Hp) (a b : Nat) (f : Nat → Int64) : hI (wJ h a f) b = hI h b := rfl
theorem hI_wR (h : Hp) (a b : Nat) (f : Nat → Option Nat) : hI (wR h a f) b = hI h b := rfl
theorem hJ_wI (h : Hp) (a b : Nat) (f : Nat → Int32) : hJ (wI h a f) b = hJ h b := rfl
theorem hJ_wJ (h : Hp) (a b : Nat) (f : Nat → Int64) : hJ (wJ h a f) b = if b = a then f else hJ h b := rfl
theorem hJ_wR (h : Hp) (a b : Nat) (f : Nat → Option Nat) : hJ (wR h a f) b = hJ h b := rfl
theorem hR_wI (h : Hp) (a b : Nat) (f : Nat → Int32) : hR (wI h a f) b = hR h b := rfl
theorem hR_wJ (h : Hp) (a b : Nat) (f : Nat → Int64) : hR (wJ h a f) b = hR h b := rfl
theorem hR_wR (h : Hp) (a b : Nat) (f : Nat → Option Nat) : hR (wR h a f) b = if b = a then f else hR h b := rfl
theorem hS_sI (h : Hp) (a i b : Nat) (v : Int32) : hS (sI h a i v) b = hS h b := rfl
theorem hS_sJ (h : Hp) (a i b : Nat) (v : Int64) : hS (sJ h a i v) b = hS h b := rfl
theorem hS_sR (h : Hp) (a i b : Nat) (v : Option Nat) : hS (sR h a i v) b = hS h b := rfl
theorem hN_sI (h : Hp) (a i : Nat) (v : Int32) : hN (sI h a i v) = hN h := rfl
theorem hN_sJ (h : Hp) (a i : Nat) (v : Int64) : hN (sJ h a i v) = hN h := rfl
theorem hN_sR (h : Hp) (a i : Nat) (v : Option Nat) : hN (sR h a i v) = hN h := rfl
theorem hI_sI (h : Hp) (a i b j : Nat) (v : Int32) : hI (sI h a i v) b j = if b = a ∧ j = i then v else hI h b j := by
  by_cases hb : b = a
  · subst hb
    by_cases hj : j = i <;> simp [sI, wI, hI, va_up, hj]
  · simp [sI, wI, hI, va_up, hb]
theorem hI_sJ (h : Hp) (a i b : Nat) (v : Int64) : hI (sJ h a i v) b = hI h b := rfl
theorem hI_sR (h : Hp) (a i b : Nat) (v : Option Nat) : hI (sR h a i v) b = hI h b := rfl
theorem hJ_sI (h : Hp) (a i b : Nat) (v : Int32) : hJ (sI h a i v) b = hJ h b := rfl
theorem hJ_sR (h : Hp) (a i b : Nat) (v : Option Nat) : hJ (sR h a i v) b = hJ h b := rfl
theorem hJ_sJ (h : Hp) (a i b j : Nat) (v : Int64) : hJ (sJ h a i v) b j = if b = a ∧ j = i then v else hJ h b j := by
  by_cases hb : b = a
  · subst hb
    by_cases hj : j = i <;> simp [sJ, wJ, hJ, va_up, hj]
  · simp [sJ, wJ, hJ, va_up, hb]
theorem hR_sI (h : Hp) (a i b : Nat) (v : Int32) : hR (sI h a i v) b = hR h b := rfl
theorem hR_sJ (h : Hp) (a i b : Nat) (v : Int64) : hR (sJ h a i v) b = hR h b := rfl
theorem hR_sR (h : Hp) (a i b j : Nat) (v : Option Nat) : hR (sR h a i v) b j = if b = a ∧ j = i then v else hR h b j := by
  by_cases hb : b = a
  · subst hb
    by_cases hj : j = i <;> simp [sR, wR, hR, va_up, hj]
  · simp [sR, wR, hR, va_up, hb]
theorem hS_nw (h : Hp) (k n b : Nat) : hS (nw h k n) b = if b = hN h then (k, n) else hS h b := rfl
theorem hN_nw (h : Hp) (k n : Nat) : hN (nw h k n) = hN h + 1 := rfl
theorem hI_nw (h : Hp) (k n b : Nat) : hI (nw h k n) b = if b = hN h then (fun _ => 0) else hI h b := rfl
theorem hJ_nw (h : Hp) (k n b : Nat) : hJ (nw h k n) b = if b = hN h then (fun _ => 0) else hJ h b := rfl
theorem hR_nw (h : Hp) (k n b : Nat) : hR (nw h k n) b = if b = hN h then (fun _ => none) else hR h b := rfl
/-! where pure addresses lie: below 8 the statics, from 8 on what was made since the law's start -/
abbrev Ev : Type := Nat × (Nat → Nat) × va_G × (Nat → ClassId)
def ad (E : Ev) (p : Nat) : Nat := if p < 9 then E.2.1 p else E.1 + (p - 9)
def mv (E : Ev) (v : Value) : Value := match v with
  | .ref p => .ref (ad E p)
  | v => v
def rfv (r : Option Nat) : Value := match r with
  | none => .null
  | some p => .ref p
theorem mv_rfv (E : Ev) (r : Option Nat) : mv E (rfv r) = va_rf (r.map (ad E)) := by cases r <;> rfl
theorem mv_cat (E : Ev) (v : Value) : (mv E v).category = v.category := by cases v <;> rfl
def tyF (c k : Nat) : FieldType := match c with
  | 0 => tyX0 k
  | 1 => tyX1 k
  | 2 => tyX2 k
  | 3 => tyX3 k
  | 4 => tyX4 k
  | 5 => tyX5 k
  | 6 => tyX6 k
  | 7 => tyX7 k
  | 8 => tyX8 k
  | _ => tyX9 k
def fv (E : Ev) (ty : FieldType) (i : Int32) (j : Int64) (r : Option Nat) : Value := match ty with
  | .long => .long j
  | .object _ => va_rf (r.map (ad E))
  | .array _ => va_rf (r.map (ad E))
  | _ => .int i
def fvs (E : Ev) (h : Hp) (p c n : Nat) : List Value := (List.range n).map (fun k => fv E (tyF c k) (hI h p k) (hJ h p k) (hR h p k))
def cellOf (E : Ev) (h : Hp) (p : Nat) : va_E := match (hS h p).1 with
  | 1 => .inl (E.2.2.2 1, (hS h p).2, .inl (hI h p))
  | 2 => .inl (E.2.2.2 2, (hS h p).2, .inr (.inl (hJ h p)))
  | 3 => .inl (E.2.2.2 3, (hS h p).2, .inl (hI h p))
  | 4 => .inl (E.2.2.2 4, (hS h p).2, .inr (.inr (.inr (.inr (fun j => (hR h p j).map (ad E))))))
  | 5 => .inl (E.2.2.2 5, (hS h p).2, .inr (.inr (.inr (.inr (fun j => (hR h p j).map (ad E))))))
  | c => .inr (c - 10, fvs E h p (c - 10) (hS h p).2)
abbrev tysE (E : Ev) : List (ClassId × FieldType) := [(E.2.2.2 1, .int), (E.2.2.2 2, .long), (E.2.2.2 3, .boolean), (E.2.2.2 4, .object "IllTonight$Law"), (E.2.2.2 5, .object "IllTonight$State")]
/-- private constructors of nest mates -/
def nestL : List (String × Nat × MethodName × String) := [(RX8, 9, yX7_init, RX8), (RX8, 30, yX5_init, RX8), (RX8, 44, yX0_init, RX8), (RX8, 70, yX4_init, RX8), (RX8, 77, yX6_init, RX8)]
/-- the reader's words -/
def txW : String := "cost   fades  bars   lets   if     or     and    not    actor  part   height coat   wears  voice  song   knows  usual  week   "
/-- the classes' tables, and the words that don't go with a method's own -/
def EK (E : Ev) (U : State) : Prop := va_K E.2.2.1 vwCl (tysE E) U ∧ (∀ p, p < 9 → E.2.1 p < E.1) ∧ (∀ q ∈ nestL, va_Nw (.methodLinkNest q.1 q.2.1 q.2.2.1 q.2.2.2) U) ∧ va_AO "IllTonight$Law" U ∧ va_AO "IllTonight$State" U ∧ vk_R RX5 96 txW (E.2.1 5) U ∧ va_Nw (.castable "[I" "java/lang/Cloneable") U
/-- a static's cell, as the pure heap has it -/
def stC (E : Ev) (U : State) (h : Hp) (H : Heap) (p : Nat) : Prop := match (hS h p).1 with
  | 1 => ∃ cell : Cell, H[E.2.1 p]? = some cell ∧ U.isArrayOf cell .int ∧ cell.vm ≠ .unknown ∧ (hS h p).2 ≤ cell.slots.size ∧ cell.slots.size.toInt32 = Int32.ofNat (hS h p).2 ∧ ∀ j, j < (hS h p).2 → cell.slots[j]? = some (.int (hI h p j))
  | 2 => ∃ cell : Cell, H[E.2.1 p]? = some cell ∧ U.isArrayOf cell .long ∧ cell.vm ≠ .unknown ∧ (hS h p).2 ≤ cell.slots.size ∧ cell.slots.size.toInt32 = Int32.ofNat (hS h p).2 ∧ ∀ j, j < (hS h p).2 → cell.slots[j]? = some (.long (hJ h p j))
  | 6 => ∃ cell : Cell, H[E.2.1 p]? = some cell ∧ U.isArrayOf cell .byte ∧ cell.vm ≠ .unknown ∧ (hS h p).2 ≤ cell.slots.size ∧ cell.slots.size.toInt32 = Int32.ofNat (hS h p).2 ∧ ∀ j, j < (hS h p).2 → cell.slots[j]? = some (.int (hI h p j))
  | _ => True
/-- static fields that hold rows: class, name, descriptor, pure address -/
def statL : List (String × String × String × Nat) := [(RX8, "ACTOR_LOW", "[I", 0), (RX8, "ACTOR_HIGH", "[I", 1), (RX8, "PART_HIGH", "[I", 2), (RX8, "TERM_HIGH", "[I", 3), (RX1, "WITHOUT", "[J", 4)]
/-- what static fields hold: the rows, two of the JDK's, the reader's words (a text at 5, its bytes at 6) -/
def StF (E : Ev) (U : State) (h : Hp) (H : Heap) : Prop :=
  (∀ q ∈ statL, va_Z q.1 q.2.1 q.2.2.1 (.ref (E.2.1 q.2.2.2)) (fun a => E.1 ≤ a) U H) ∧ va_Z "java/lang/String" "COMPACT_STRINGS" "Z" (.int 1) (fun a => E.1 ≤ a) U H ∧ va_Z "jdk/internal/util/Preconditions" "SIOOBE_FORMATTER" "Ljava/util/function/BiFunction;" (va_rf ((hR h 7 0).map (ad E))) (fun a => E.1 ≤ a) U H ∧
  va_O "java/lang/String" (E.2.1 5) (fun a => E.1 ≤ a) U H ∧ va_OF "java/lang/String" "coder" "B" (.int 0) (E.2.1 5) (fun a => E.1 ≤ a) U H ∧ va_OF "java/lang/String" "value" "[B" (.ref (E.2.1 6)) (E.2.1 5) (fun a => E.1 ≤ a) U H
theorem StF.moved {E : Ev} {u U : State} {h : Hp} {H : Heap} (hvm : u.vm.Alike U.vm) (x : StF E u h H) : StF E U h H := ⟨fun q hq => (x.1 q hq).moved hvm, x.2.1.moved hvm, x.2.2.1.moved hvm, x.2.2.2.1.moved hvm, x.2.2.2.2.1.moved hvm, x.2.2.2.2.2.moved hvm⟩
theorem StF.kept {E : Ev} {U : State} {h h' : Hp} {H H' : Heap} (x : StF E U h H) (hr : hR h' 7 = hR h 7) (hq : ∀ a : Nat, a < H.size → ¬ E.1 ≤ a → H'[a]? = H[a]?) : StF E U h' H' := by
  refine ⟨fun q hq' => (x.1 q hq').kept hq, x.2.1.kept hq, ?_, x.2.2.2.1.kept hq, x.2.2.2.2.1.kept hq, x.2.2.2.2.2.kept hq⟩
  rw [hr]
  exact x.2.2.1.kept hq
def Rep (E : Ev) (U : State) (h : Hp) (H : Heap) : Prop := 9 ≤ hN h ∧ H.size = E.1 + (hN h - 9) ∧ (∀ p, 9 ≤ p → p < hN h → va_at E.2.2.1 vwCl (ad E p, cellOf E h p) H) ∧ (∀ p, hN h ≤ p → (hS h p).1 = 0) ∧ (∀ p, p < 9 → stC E U h H p) ∧ StF E U h H
theorem ad_own {E : Ev} {p : Nat} (h : 9 ≤ p) : ad E p = E.1 + (p - 9) := if_neg (Nat.not_lt.mpr h)
theorem ad_st {E : Ev} {p : Nat} (h : p < 9) : ad E p = E.2.1 p := if_pos h
theorem ad_inj {E : Ev} {p q : Nat} (hp : 9 ≤ p) (hst : ∀ p, p < 9 → E.2.1 p < E.1) (hne : q ≠ p) : ad E q ≠ ad E p := by
  rw [ad_own hp]
  rcases Nat.lt_or_ge q 9 with h | h
  · rw [ad_st h]; have := hst q h; omega
  · rw [ad_own h]; omega
theorem stC.moved {E : Ev} {u U : State} {h : Hp} {H : Heap} {p : Nat} (hvm : u.vm.Alike U.vm) (hc : stC E u h H p) : stC E U h H p := by
  unfold stC at hc ⊢
  split
  · rename_i e; rw [e] at hc; obtain ⟨cell, a, b, c⟩ := hc; exact ⟨cell, a, State.isArrayOf_alike hvm b, c⟩
  · rename_i e; rw [e] at hc; obtain ⟨cell, a, b, c⟩ := hc; exact ⟨cell, a, State.isArrayOf_alike hvm b, c⟩
  · rename_i e; rw [e] at hc; obtain ⟨cell, a, b, c⟩ := hc; exact ⟨cell, a, State.isArrayOf_alike hvm b, c⟩
  · trivial
theorem Rep.moved {E : Ev} {u U : State} {h : Hp} {H : Heap} (hvm : u.vm.Alike U.vm) (hr : Rep E u h H) : Rep E U h H := ⟨hr.1, hr.2.1, hr.2.2.1, hr.2.2.2.1, fun p hp => (hr.2.2.2.2.1 p hp).moved hvm, hr.2.2.2.2.2.moved hvm⟩
theorem EK.moved {E : Ev} {u U : State} (hW : u.WarmedH U.vm) (h : EK E u) : EK E U := ⟨va_K.moved hW.alike h.1, h.2.1, fun q hq => va_Nw.warmM hW (h.2.2.1 q hq), h.2.2.2.1.moved hW.alike, h.2.2.2.2.1.moved hW.alike, h.2.2.2.2.2.1.warm hW, va_Nw.warmC hW h.2.2.2.2.2.2⟩
theorem EK.same {E : Ev} {u U : State} (hv : u.vm = U.vm) (h : EK E u) : EK E U := ⟨va_K.moved (by rw [hv]; exact Vm.Alike.refl _) h.1, h.2.1, fun q hq => va_Nw.same rfl hv (h.2.2.1 q hq), h.2.2.2.1.moved (by rw [hv]; exact Vm.Alike.refl _), h.2.2.2.2.1.moved (by rw [hv]; exact Vm.Alike.refl _), h.2.2.2.2.2.1.same hv.symm, va_Nw.same rfl hv h.2.2.2.2.2.2⟩
/-- a write into one own cell -/
theorem Rep.put {E : Ev} {U : State} {h h' : Hp} {H H' : Heap} {p : Nat} (hr : Rep E U h H) (hst : ∀ p, p < 9 → E.2.1 p < E.1) (hp : 9 ≤ p) (hS' : ∀ q, hS h' q = hS h q) (hN' : hN h' = hN h)
    (ho : ∀ q, q ≠ p → hI h' q = hI h q ∧ hJ h' q = hJ h q ∧ hR h' q = hR h q) (hz : H'.size = H.size) (hq : ∀ q, q ≠ ad E p → H'[q]? = H[q]?) (hc : va_at E.2.2.1 vwCl (ad E p, cellOf E h' p) H') : Rep E U h' H' := by
  obtain ⟨r1, r2, r3, r4, r5, r6⟩ := hr
  refine ⟨by rw [hN']; exact r1, by rw [hN', hz]; exact r2, fun q h1 h2 => ?_, fun q h1 => by rw [hS']; exact r4 q (by rw [← hN']; exact h1), fun q h1 => ?_, r6.kept (ho 7 (by omega)).2.2 fun a _ ha => hq a (by rw [ad_own hp]; omega)⟩
  · by_cases e : q = p
    · subst e; exact hc
    · have hcell : cellOf E h' q = cellOf E h q := by
        obtain ⟨a, b, c⟩ := ho q e
        simp only [cellOf, fvs, hS', a, b, c]
      rw [hcell]
      exact (r3 q h1 (by rw [← hN']; exact h2)).kept (hq _ (ad_inj hp hst e))
  · have e : q ≠ p := by omega
    have hh : H'[E.2.1 q]? = H[E.2.1 q]? := hq _ (by have := ad_inj (q := q) hp hst e; rw [ad_st h1] at this; exact this)
    obtain ⟨a, b, c⟩ := ho q e
    have := r5 q h1
    unfold stC at this ⊢
    simp only [hS', a, b, hh]
    exact this
theorem fvs_get {E : Ev} {h : Hp} {p c n k : Nat} (hk : k < n) : (fvs E h p c n)[k]? = some (fv E (tyF c k) (hI h p k) (hJ h p k) (hR h p k)) := by
  simp [fvs, hk]
theorem cell_obj {E : Ev} {h : Hp} {p c n : Nat} (hs : hS h p = (10 + c, n)) : cellOf E h p = .inr (c, fvs E h p c n) := by
  unfold cellOf
  rw [hs]
  split <;> first | (exfalso; simp at *; omega) | (simp at *; omega) | skip
  rename_i e
  simp
theorem cell_1 {E : Ev} {h : Hp} {p n : Nat} (hs : hS h p = (1, n)) : cellOf E h p = .inl (E.2.2.2 1, n, .inl (hI h p)) := by simp [cellOf, hs]
theorem cell_2 {E : Ev} {h : Hp} {p n : Nat} (hs : hS h p = (2, n)) : cellOf E h p = .inl (E.2.2.2 2, n, .inr (.inl (hJ h p))) := by simp [cellOf, hs]
theorem cell_3 {E : Ev} {h : Hp} {p n : Nat} (hs : hS h p = (3, n)) : cellOf E h p = .inl (E.2.2.2 3, n, .inl (hI h p)) := by simp [cellOf, hs]
theorem cell_4 {E : Ev} {h : Hp} {p n : Nat} (hs : hS h p = (4, n)) : cellOf E h p = .inl (E.2.2.2 4, n, .inr (.inr (.inr (.inr (fun j => (hR h p j).map (ad E)))))) := by simp [cellOf, hs]
theorem cell_5 {E : Ev} {h : Hp} {p n : Nat} (hs : hS h p = (5, n)) : cellOf E h p = .inl (E.2.2.2 5, n, .inr (.inr (.inr (.inr (fun j => (hR h p j).map (ad E)))))) := by simp [cellOf, hs]
theorem Rep.lt {E : Ev} {U : State} {h : Hp} {H : Heap} {p : Nat} (hr : Rep E U h H) (hk : (hS h p).1 ≠ 0) : p < hN h := Nat.lt_of_not_le fun q => hk (hr.2.2.2.1 p q)
theorem Rep.at {E : Ev} {U : State} {h : Hp} {H : Heap} {p : Nat} (hr : Rep E U h H) (hk : (hS h p).1 ≠ 0) (hp : 9 ≤ p) : va_at E.2.2.1 vwCl (ad E p, cellOf E h p) H := hr.2.2.1 p hp (hr.lt hk)
/-- a new cell -/
theorem Rep.new {E : Ev} {U : State} {h : Hp} {H H' : Heap} {k n : Nat} (hr : Rep E U h H) (hst : ∀ p, p < 9 → E.2.1 p < E.1) (hz : H'.size = H.size + 1) (hq : ∀ q, q < H.size → H'[q]? = H[q]?) (hc : va_at E.2.2.1 vwCl (ad E (hN h), cellOf E (nw h k n) (hN h)) H') : Rep E U (nw h k n) H' := by
  obtain ⟨r1, r2, r3, r4, r5, r6⟩ := hr
  refine ⟨by rw [hN_nw]; omega, by rw [hN_nw, hz]; omega, fun q h1 h2 => ?_, fun q h1 => ?_, fun q h1 => ?_, r6.kept (by rw [hR_nw, if_neg (by omega)]) fun a ha _ => hq a ha⟩
  · rw [hN_nw] at h2
    by_cases e : q = hN h
    · subst e; exact hc
    · have hcell : cellOf E (nw h k n) q = cellOf E h q := by
        simp only [cellOf, fvs, hS_nw, hI_nw, hJ_nw, hR_nw, if_neg e]
      rw [hcell]
      exact (r3 q h1 (by omega)).kept (hq _ (by rw [ad_own h1]; omega))
  · rw [hN_nw] at h1
    rw [hS_nw, if_neg (by omega)]
    exact r4 q (by omega)
  · have hh : H'[E.2.1 q]? = H[E.2.1 q]? := hq _ (by have := hst q h1; omega)
    have := r5 q h1
    unfold stC at this ⊢
    simp only [hS_nw, hI_nw, hJ_nw, if_neg (show q ≠ hN h by omega), hh]
    exact this
