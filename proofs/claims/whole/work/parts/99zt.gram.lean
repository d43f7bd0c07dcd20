/-! THE READER, as mathematics: tokens by kind K and worth V (N: the end's number); the class's descent, the reference's pile.
A state of the class: token, steps, how many, pieces -/
abbrev PS : Type := Nat × Cd × Nat × Nat
def upC (c : Cd) (n : Nat) (x : Nat × Nat) : Cd := fun p => if p = n then x else c p
theorem upC_self (c : Cd) (n : Nat) (x : Nat × Nat) : upC c n x n = x := if_pos rfl
theorem upC_off (c : Cd) {n p : Nat} (x : Nat × Nat) (h : p ≠ n) : upC c n x p = c p := if_neg h
def adS (k w : Nat) (s : PS) : PS := (s.1, upC s.2.1 s.2.2.1 (k, w), s.2.2.1 + 1, s.2.2.2)
def tkS (s : PS) : PS := (s.1 + 1, s.2)
def ptS (j k : Nat) (s : PS) : PS := (s.1, upC s.2.1 j (k, s.2.2.1), s.2.2)
def arO (k : Nat) : Nat := if k = 143 then 20 else if k = 145 then 21 else if k = 142 then 22 else if k = 147 then 23 else 0
def cmO (k : Nat) : Nat := if k = 160 then 24 else if k = 162 then 25 else if k = 161 then 26 else 0
def bds (o : Nat) : Nat := if o < 20 then 9 else if 30 ≤ o then 0 else if o = 29 then 1 else if o = 28 then 2 else if o = 27 then 3 else if 24 ≤ o then 4 else if 22 ≤ o then 6 else 5
def plp (K : Nat → Nat) (L : Nat) (sub : PS → Bool × PS) : Nat → PS → Bool × PS
  | 0, s => (true, s)
  | f + 1, s => if bds (arO (K s.1)) = L then (if (sub (tkS s)).1 = true then plp K L sub f (adS (arO (K s.1) - 15) 0 (sub (tkS s)).2) else (false, (sub (tkS s)).2)) else (true, s)
def plv (K : Nat → Nat) (L : Nat) (sub : PS → Bool × PS) (s : PS) : Bool × PS := if (sub s).1 = true then plp K L sub 400 (sub s).2 else (false, (sub s).2)
def pLf (K V : Nat → Nat) (s : PS) : Bool × PS := if (8 ≤ K s.1 ∧ K s.1 ≤ 18) ∧ s.2.2.2 < 50 then (true, (s.1 + 1, upC s.2.1 s.2.2.1 (if K s.1 = 18 then (0, V s.1) else (1, K s.1 - 8)), s.2.2.1 + 1, s.2.2.2 + 1)) else (false, s)
def pBr (K : Nat → Nat) (c : Nat) (r : Bool × PS) : Bool × PS := if r.1 = true ∧ K r.2.1 = c then (true, tkS r.2) else (false, r.2)
def pPc (K V : Nat → Nat) : Nat → PS → Bool × PS
  | 0 => fun s => if K s.1 = 191 then (false, s) else pLf K V s
  | n + 1 => fun s => if K s.1 = 191 then pBr K 193 (plv K 5 (plv K 6 (pPc K V n)) (tkS s)) else pLf K V s
def pSm (K V : Nat → Nat) (n : Nat) : PS → Bool × PS := plv K 5 (plv K 6 (pPc K V n))
/-- both: 2, either: 1 -/
def kwL (L : Nat) : Nat := 4 + L
def jkL (L : Nat) : Nat := 2 + L
def joL (L : Nat) : Nat := 30 - L
def jlp (K : Nat → Nat) (L : Nat) (sub : PS → Bool × PS) : Nat → PS → Bool × PS
  | 0, s => (true, s)
  | f + 1, s => if K s.1 = kwL L then (if (sub (adS (jkL L) 0 (tkS s))).1 = true then jlp K L sub f (ptS s.2.2.1 (jkL L) (sub (adS (jkL L) 0 (tkS s))).2) else (false, (sub (adS (jkL L) 0 (tkS s))).2)) else (true, s)
def jlv (K : Nat → Nat) (L : Nat) (sub : PS → Bool × PS) (s : PS) : Bool × PS := if (sub s).1 = true then jlp K L sub 400 (sub s).2 else (false, (sub s).2)
def pNt (K : Nat → Nat) : Nat → Bool → PS → Bool × PS
  | 0, t, s => (t, s)
  | f + 1, t, s => if K s.1 = 7 then pNt K f (!t) (tkS s) else (t, s)
def pFn (t : Bool) (s : PS) : PS := if t = true then adS 2 0 s else s
def pC2 (o : Nat) (t : Bool) (r : Bool × PS) : Bool × PS := if r.1 = true then (true, pFn t (adS (o - 15) 0 r.2)) else (false, r.2)
def pCm (K V : Nat → Nat) (n : Nat) (t : Bool) (r : Bool × PS) : Bool × PS := if r.1 = true ∧ cmO (K r.2.1) ≠ 0 then pC2 (cmO (K r.2.1)) t (pSm K V n (tkS r.2)) else (false, r.2)
def pB2 (K : Nat → Nat) (t : Bool) (r : Bool × PS) : Bool × PS := if r.1 = true ∧ K r.2.1 = 141 then (true, pFn t (tkS r.2)) else (false, r.2)
def pPl (K V : Nat → Nat) : Nat → PS → Bool × PS
  | 0 => fun s => if K (pNt K 400 false s).2.1 = 140 then (false, (pNt K 400 false s).2) else pCm K V 0 (pNt K 400 false s).1 (pSm K V 0 (pNt K 400 false s).2)
  | n + 1 => fun s => if K (pNt K 400 false s).2.1 = 140 then pB2 K (pNt K 400 false s).1 (jlv K 1 (jlv K 2 (pPl K V n)) (tkS (pNt K 400 false s).2)) else pCm K V (n + 1) (pNt K 400 false s).1 (pSm K V (n + 1) (pNt K 400 false s).2)
def pTs (K V : Nat → Nat) (n : Nat) : PS → Bool × PS := jlv K 1 (jlv K 2 (pPl K V n))
/-! the reference: turn, token, pile (its top first), code (op, arg), how many, leaves, opened, bad -/
abbrev Pl : Type := List (Nat × Nat)
abbrev MS : Type := Nat × Nat × Pl × Cd × Nat × Nat × Nat × Bool
def stl (L : Nat) : Pl → Cd → Nat → Pl × Cd × Nat
  | [], c, n => ([], c, n)
  | x :: t, c, n => if L ≤ bds x.1 then (if x.1 = 28 ∨ x.1 = 29 then stl L t (upC c x.2 ((c x.2).1, n)) n else stl L t (upC c n (x.1, 0)) (n + 1)) else (x :: t, c, n)
def inn : Pl → Nat
  | [] => 0
  | x :: t => if 30 ≤ x.1 then x.1 else inn t
def isCm : Pl → Bool
  | [] => false
  | x :: t => if 20 ≤ x.1 ∧ x.1 ≤ 23 then isCm t else decide (24 ≤ x.1 ∧ x.1 ≤ 26)
def mPart (K V : Nat → Nat) (i : Nat) (p : Pl) (c : Cd) (n lv op : Nat) : MS :=
  if K i = 191 then (if op < 8 then (1, i + 1, (31, 0) :: p, c, n, lv, op + 1, false) else (1, i, p, c, n, lv, op, true))
  else if (8 ≤ K i ∧ K i ≤ 18) ∧ lv < 50 then (3, i + 1, p, upC c n (if K i = 18 then (0, V i) else (K i - 7, 0)), n + 1, lv + 1, op, false) else (3, i, p, c, n, lv, op, true)
def mPlain (K V : Nat → Nat) (i : Nat) (p : Pl) (c : Cd) (n lv op : Nat) : MS :=
  if K i = 7 then (0, i + 1, (27, 0) :: p, c, n, lv, op, false)
  else if K i = 140 then (if op < 8 then (0, i + 1, (30, 0) :: p, c, n, lv, op + 1, false) else (0, i, p, c, n, lv, op, true))
  else mPart K V i p c n lv op
def mSum (K : Nat → Nat) (ts : Bool) (i : Nat) (p : Pl) (c : Cd) (n lv op : Nat) : MS :=
  if arO (K i) ≠ 0 then (1, i + 1, (arO (K i), 0) :: (stl (bds (arO (K i))) p c n).1, (stl (bds (arO (K i))) p c n).2.1, (stl (bds (arO (K i))) p c n).2.2, lv, op, false)
  else if inn p = 31 then (if K i = 193 then (if op = 0 ∨ (stl 5 p c n).1 = [] then (9, i, p, c, n, lv, op, false) else (3, i + 1, (stl 5 p c n).1.tail, (stl 5 p c n).2.1, (stl 5 p c n).2.2, lv, op - 1, false)) else (3, i, p, c, n, lv, op, true))
  else if inn p = 0 ∧ ts = false then (4, i, p, c, n, lv, op, false)
  else if isCm p = true then (2, i, p, c, n, lv, op, false)
  else if cmO (K i) ≠ 0 then (1, i + 1, (cmO (K i), 0) :: (stl 5 p c n).1, (stl 5 p c n).2.1, (stl 5 p c n).2.2, lv, op, false)
  else (1, i, p, c, n, lv, op, true)
def mTs (K : Nat → Nat) (i : Nat) (p : Pl) (c : Cd) (n lv op : Nat) : MS :=
  if K i = 6 then (0, i + 1, (28, (stl 2 p c n).2.2) :: (stl 2 p c n).1, upC (stl 2 p c n).2.1 (stl 2 p c n).2.2 (28, 0), (stl 2 p c n).2.2 + 1, lv, op, false)
  else if K i = 5 then (0, i + 1, (29, (stl 1 p c n).2.2) :: (stl 1 p c n).1, upC (stl 1 p c n).2.1 (stl 1 p c n).2.2 (29, 0), (stl 1 p c n).2.2 + 1, lv, op, false)
  else if inn p = 0 then (4, i, p, c, n, lv, op, false)
  else if K i = 141 then (if op = 0 ∨ (stl 1 p c n).1 = [] then (9, i, p, c, n, lv, op, false) else (2, i + 1, (stl 1 p c n).1.tail, (stl 1 p c n).2.1, (stl 1 p c n).2.2, lv, op - 1, false))
  else (2, i, p, c, n, lv, op, true)
def mstep (K V : Nat → Nat) (ts : Bool) : MS → MS
  | (tn, i, p, c, n, lv, op, bad) => if bad = true ∨ tn = 4 ∨ tn = 9 then (tn, i, p, c, n, lv, op, bad) else if tn = 0 then mPlain K V i p c n lv op else if tn = 1 then mPart K V i p c n lv op else if tn = 3 then mSum K ts i p c n lv op else mTs K i p c n lv op
def mrun (K V : Nat → Nat) (ts : Bool) : Nat → MS → MS
  | 0, A => A
  | m + 1, A => mrun K V ts m (mstep K V ts A)
def Rch (K V : Nat → Nat) (ts : Bool) (A B : MS) : Prop := ∃ m, mrun K V ts m A = B
section RCH
variable {K V : Nat → Nat} {ts : Bool} {A B C : MS}
theorem mrun_add : ∀ (m m' : Nat) (A : MS), mrun K V ts (m + m') A = mrun K V ts m' (mrun K V ts m A)
  | 0, m', A => by rw [Nat.zero_add]; rfl
  | m + 1, m', A => by rw [Nat.succ_add]; exact mrun_add m m' _
theorem Rch.refl (A : MS) : Rch K V ts A A := ⟨0, rfl⟩
theorem Rch.trans (a : Rch K V ts A B) (b : Rch K V ts B C) : Rch K V ts A C := by
  obtain ⟨m, rfl⟩ := a
  obtain ⟨m', rfl⟩ := b
  exact ⟨m + m', mrun_add m m' A⟩
theorem Rch.step (b : Rch K V ts (mstep K V ts A) C) : Rch K V ts A C := by
  obtain ⟨m, rfl⟩ := b
  exact ⟨m + 1, rfl⟩
theorem Rch.next (a : Rch K V ts A B) (e : mstep K V ts B = C) : Rch K V ts A C := a.trans ⟨1, e⟩
theorem Rch.same (a : Rch K V ts A B) (e : mstep K V ts C = mstep K V ts A) (ne : A ≠ B) : Rch K V ts C B := by
  obtain ⟨m, h⟩ := a
  cases m with
  | zero => exact absurd h ne
  | succ m => exact ⟨m + 1, by rw [mrun, e]; exact h⟩
end RCH
/-! settling -/
theorem stl_stop {L : Nat} {p : Pl} (h : ∀ x t, p = x :: t → bds x.1 < L) (c : Cd) (n : Nat) : stl L p c n = (p, c, n) := by
  cases p with
  | nil => rfl
  | cons x t => rw [stl, if_neg (by have := h x t rfl; omega)]
theorem stl_mono {L L' : Nat} (hL : L ≤ L') : ∀ (p : Pl) (c : Cd) (n : Nat), stl L p c n = stl L (stl L' p c n).1 (stl L' p c n).2.1 (stl L' p c n).2.2
  | [], c, n => rfl
  | x :: t, c, n => by
    rw [stl.eq_2 L']
    by_cases h : L' ≤ bds x.1
    · rw [stl.eq_2 L, if_pos (by omega), if_pos h]
      by_cases q : x.1 = 28 ∨ x.1 = 29
      · rw [if_pos q, if_pos q]; exact stl_mono hL t _ _
      · rw [if_neg q, if_neg q]; exact stl_mono hL t _ _
    · rw [if_neg h]
theorem stl_to {L L' : Nat} (hL : L ≤ L') {p q : Pl} {c c' : Cd} {n n' : Nat} (h : stl L' p c n = (q, c', n')) : stl L p c n = stl L q c' n' := by
  rw [stl_mono hL, h]
theorem inn_app {t p : Pl} (h : ∀ x ∈ t, x.1 < 30) : inn (t ++ p) = inn p := by
  induction t with
  | nil => rfl
  | cons x t ih =>
    rw [List.cons_append, inn, if_neg (by have := h x List.mem_cons_self; omega)]
    exact ih fun y hy => h y (List.mem_cons_of_mem _ hy)
theorem isCm_app {t p : Pl} (h : ∀ x ∈ t, 20 ≤ x.1 ∧ x.1 ≤ 23) : isCm (t ++ p) = isCm p := by
  induction t with
  | nil => rfl
  | cons x t ih =>
    rw [List.cons_append, isCm, if_pos (h x List.mem_cons_self)]
    exact ih fun y hy => h y (List.mem_cons_of_mem _ hy)
/-! stretches of code -/
def cdR (c : Cd) : Cd := fun p => (kdM (c p).1, if (c p).1 = 0 ∨ 27 < (c p).1 then (c p).2 else (c p).1 - 1)
theorem Seg.num {cd : Cd} {s w need : Nat} (h : cd s = (0, w)) (hn : 1 ≤ need) : Seg cd s (s + 1) need (fun _ => some (nI w)) := by
  refine ⟨by omega, fun lim fc n st h1 h2 => ?_⟩
  obtain ⟨m, rfl⟩ : ∃ m, n = m + 1 := ⟨n - 1, by omega⟩
  rw [xrun_go (by omega) (by omega), h]
  show xrun lim cd fc (s + 1) m (s + 1) (nI w :: st) = _
  rw [xrun_end (Nat.le_refl _)]; rfl
theorem Seg.fact {cd : Cd} {s w need : Nat} (h : cd s = (1, w)) (hn : 1 ≤ need) : Seg cd s (s + 1) need (fun fc => some (fc w)) := by
  refine ⟨by omega, fun lim fc n st h1 h2 => ?_⟩
  obtain ⟨m, rfl⟩ : ∃ m, n = m + 1 := ⟨n - 1, by omega⟩
  rw [xrun_go (by omega) (by omega), h]
  show xrun lim cd fc (s + 1) m (s + 1) (fc w :: st) = _
  rw [xrun_end (Nat.le_refl _)]; rfl
def vBin (k : Nat) (v1 v2 : VF) : VF := fun fc => (v1 fc).bind fun a => (v2 fc).bind fun b => jn k a b
def vNot (v : VF) : VF := fun fc => (v fc).map fun x => 1 - x
def vJmp (z : Int32) (v1 v2 : VF) : VF := fun fc => (v1 fc).bind fun a => if a = z then some a else v2 fc
theorem Seg.bin {cd : Cd} {s p t k w need : Nat} {v1 v2 : VF} (a : Seg cd s p (need + 1) v1) (b : Seg cd p t need v2) (h : cd t = (k, w)) (hk : 5 ≤ k) (hn : 2 ≤ need) : Seg cd s (t + 1) (need + 1) (vBin k v1 v2) := by
  have h1 := a.1
  have h2 := b.1
  refine ⟨by omega, fun lim fc n st e1 e2 => ?_⟩
  rw [a.ahead (n' := t + 1 - p) (by omega) (by omega) (by omega) (by omega)]
  unfold vBin
  cases v1 fc with
  | none => rfl
  | some x =>
    show xrun lim cd fc (t + 1) (t + 1 - p) p (x :: st) = some (((v2 fc).bind fun b => jn k x b).map _)
    rw [b.ahead (n' := 1) (by omega) (by omega) (by omega) (by show (st.length + 1) + need ≤ lim; omega)]
    cases v2 fc with
    | none => rfl
    | some y =>
      show xrun lim cd fc (t + 1) 1 t (y :: x :: st) = some ((jn k x y).map _)
      rw [xrun_go (by omega) (by show ¬ lim ≤ st.length + 1 + 1; omega), h]
      show bnd (xstep k w fc t (y :: x :: st)) _ = _
      rw [xstep_j hk]
      cases jn k x y with
      | none => rfl
      | some z =>
        show xrun lim cd fc (t + 1) 0 (t + 1) (z :: st) = _
        rw [xrun_end (Nat.le_refl _)]; rfl
theorem Seg.neg {cd : Cd} {s t w need : Nat} {v : VF} (a : Seg cd s t need v) (h : cd t = (2, w)) (hn : 2 ≤ need) : Seg cd s (t + 1) need (vNot v) := by
  have h1 := a.1
  refine ⟨by omega, fun lim fc n st e1 e2 => ?_⟩
  rw [a.ahead (n' := 1) (by omega) (by omega) (by omega) (by omega)]
  unfold vNot
  cases v fc with
  | none => rfl
  | some x =>
    show xrun lim cd fc (t + 1) 1 t (x :: st) = _
    rw [xrun_go (by omega) (by show ¬ lim ≤ st.length + 1; omega), h]
    show xrun lim cd fc (t + 1) 0 (t + 1) ((1 - x) :: st) = _
    rw [xrun_end (Nat.le_refl _)]; rfl
theorem Seg.jmp {cd : Cd} {s p t k need : Nat} {z : Int32} {v1 v2 : VF} (a : Seg cd s p need v1) (b : Seg cd (p + 1) t need v2) (h : cd p = (k, t)) (hk : (k = 3 ∧ z = 1) ∨ (k = 4 ∧ z = 0)) (hn : 2 ≤ need) : Seg cd s t need (vJmp z v1 v2) := by
  have h1 := a.1
  have h2 := b.1
  refine ⟨by omega, fun lim fc n st e1 e2 => ?_⟩
  rw [a.ahead (n' := t - p - 1 + 1) (by omega) (by omega) (by omega) (by omega)]
  unfold vJmp
  cases v1 fc with
  | none => rfl
  | some x =>
    show xrun lim cd fc t (t - p - 1 + 1) p (x :: st) = some ((if x = z then some x else v2 fc).map _)
    rw [xrun_go (by omega) (by show ¬ lim ≤ st.length + 1; omega), h]
    by_cases q : x = z
    · rw [if_pos q]
      have e : xstep k t fc p (x :: st) = some (some (max (p + 1) t, x :: st)) := by
        rcases hk with ⟨rfl, hz⟩ | ⟨rfl, hz⟩
        · show (if x = 1 then _ else _) = _
          rw [if_pos (q.trans hz)]
        · show (if x = 0 then _ else _) = _
          rw [if_pos (q.trans hz)]
      show bnd (xstep k t fc p (x :: st)) _ = _
      rw [e]
      show xrun lim cd fc t (t - p - 1) (max (p + 1) t) (x :: st) = _
      rw [xrun_end (by omega), show max (p + 1) t = t by omega]; rfl
    · rw [if_neg q]
      have e : xstep k t fc p (x :: st) = some (some (p + 1, st)) := by
        rcases hk with ⟨rfl, hz⟩ | ⟨rfl, hz⟩
        · show (if x = 1 then _ else _) = _
          rw [if_neg (fun y => q (y.trans hz.symm))]
        · show (if x = 0 then _ else _) = _
          rw [if_neg (fun y => q (y.trans hz.symm))]
      show bnd (xstep k t fc p (x :: st)) _ = _
      rw [e]
      exact b.2 lim fc (t - p - 1) st (by omega) (by omega)
