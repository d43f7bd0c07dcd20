/-! THE LAWS' CODE, as mathematics. fc: the ten facts; a value that is none is BROKEN.
kinds as the class has them: 0 number, 1 fact, 2 not, 3 or, 4 and, 5 plus, 6 minus, 7 times, 8 over, 9 less, 10 more, 11 same -/
def jn (k : Nat) (a b : Int32) : Option Int32 := match k with
  | 5 => if -1000000000 ≤ a.toInt + b.toInt ∧ a.toInt + b.toInt ≤ 1000000000 then some (a + b) else none
  | 6 => if -1000000000 ≤ a.toInt - b.toInt ∧ a.toInt - b.toInt ≤ 1000000000 then some (a - b) else none
  | 7 => if -1000000000 ≤ a.toInt * b.toInt ∧ a.toInt * b.toInt ≤ 1000000000 then some (a * b) else none
  | 8 => if b = 0 then none else if -1000000000 ≤ a.toInt.tdiv b.toInt ∧ a.toInt.tdiv b.toInt ≤ 1000000000 then some (a / b) else none
  | 9 => some (bI (a < b))
  | 10 => some (bI (b < a))
  | 11 => some (bI (a = b))
  | _ => none
/-- one step: kind and with; the stack, its top first; where it goes on. none: the stack is too short; some none: BROKEN -/
def xstep (k w : Nat) (fc : Nat → Int32) (p : Nat) (st : List Int32) : Option (Option (Nat × List Int32)) := match k, st with
  | 0, st => some (some (p + 1, nI w :: st))
  | 1, st => some (some (p + 1, fc w :: st))
  | 2, x :: t => some (some (p + 1, (1 - x) :: t))
  | 3, x :: t => if x = 1 then some (some (max (p + 1) w, x :: t)) else some (some (p + 1, t))
  | 4, x :: t => if x = 0 then some (some (max (p + 1) w, x :: t)) else some (some (p + 1, t))
  | k, b :: a :: t => some ((jn k a b).map (fun v => (p + 1, v :: t)))
  | _, _ => none
abbrev Cd : Type := Nat → Nat × Nat
abbrev VF : Type := (Nat → Int32) → Option Int32
def bnd {α β : Type} (o : Option (Option α)) (f : α → Option (Option β)) : Option (Option β) := match o with
  | none => none
  | some none => some none
  | some (some q) => f q
/-- from p on, till hi is reached: where, and the stack then -/
def xrun (lim : Nat) (cd : Cd) (fc : Nat → Int32) (hi : Nat) : Nat → Nat → List Int32 → Option (Option (Nat × List Int32))
  | 0, p, st => if hi ≤ p then some (some (p, st)) else none
  | n + 1, p, st => if hi ≤ p then some (some (p, st)) else if lim ≤ st.length then none else bnd (xstep (cd p).1 (cd p).2 fc p st) (fun q => xrun lim cd fc hi n q.1 q.2)
theorem xstep_lt {k w : Nat} {fc : Nat → Int32} {p : Nat} {st : List Int32} {q : Nat × List Int32} (h : xstep k w fc p st = some (some q)) : p < q.1 := by
  unfold xstep at h
  split at h
  · cases h; show p < p + 1; omega
  · cases h; show p < p + 1; omega
  · cases h; show p < p + 1; omega
  · split at h
    · cases h; show p < max (p + 1) w; omega
    · cases h; show p < p + 1; omega
  · split at h
    · cases h; show p < max (p + 1) w; omega
    · cases h; show p < p + 1; omega
  · have h := Option.some.inj h
    rw [Option.map_eq_some_iff] at h
    obtain ⟨v, -, rfl⟩ := h
    show p < p + 1; omega
  · cases h
theorem xrun_end {lim : Nat} {cd : Cd} {fc : Nat → Int32} {hi n p : Nat} {st : List Int32} (hp : hi ≤ p) : xrun lim cd fc hi n p st = some (some (p, st)) := by
  cases n <;> rw [xrun, if_pos hp]
theorem xrun_full {lim : Nat} {cd : Cd} {fc : Nat → Int32} {hi n p : Nat} {st : List Int32} (hp : ¬ hi ≤ p) (hl : lim ≤ st.length) : xrun lim cd fc hi (n + 1) p st = none := by
  rw [xrun, if_neg hp, if_pos hl]
theorem xrun_go {lim : Nat} {cd : Cd} {fc : Nat → Int32} {hi n p : Nat} {st : List Int32} (hp : ¬ hi ≤ p) (hl : ¬ lim ≤ st.length) : xrun lim cd fc hi (n + 1) p st = bnd (xstep (cd p).1 (cd p).2 fc p st) (fun q => xrun lim cd fc hi n q.1 q.2) := by
  rw [xrun, if_neg hp, if_neg hl]
theorem xrun_fuel {lim : Nat} {cd : Cd} {fc : Nat → Int32} {hi : Nat} : ∀ (n n' p : Nat) (st : List Int32), hi ≤ p + n → hi ≤ p + n' → xrun lim cd fc hi n p st = xrun lim cd fc hi n' p st := by
  intro n
  induction n with
  | zero =>
    intro n' p st h1 h2
    rw [xrun_end (by omega), xrun_end (by omega)]
  | succ n ih =>
    intro n' p st h1 h2
    by_cases hp : hi ≤ p
    · rw [xrun_end hp, xrun_end hp]
    · cases n' with
      | zero => omega
      | succ n' =>
        by_cases hl : lim ≤ st.length
        · rw [xrun_full hp hl, xrun_full hp hl]
        · rw [xrun_go hp hl, xrun_go hp hl]
          cases hs : xstep (cd p).1 (cd p).2 fc p st with
          | none => rfl
          | some o =>
            cases o with
            | none => rfl
            | some q =>
              have := xstep_lt hs
              exact ih n' q.1 q.2 (by omega) (by omega)
theorem xrun_split {lim : Nat} {cd : Cd} {fc : Nat → Int32} {hi hi' : Nat} (hh : hi ≤ hi') : ∀ (n p : Nat) (st : List Int32) (n' : Nat), hi' ≤ p + n → hi' ≤ hi + n' → xrun lim cd fc hi' n p st = bnd (xrun lim cd fc hi n p st) (fun q => xrun lim cd fc hi' n' q.1 q.2) := by
  intro n
  induction n with
  | zero =>
    intro p st n' h1 h2
    rw [xrun_end (by omega), xrun_end (by omega)]
    show _ = xrun lim cd fc hi' n' p st
    rw [xrun_end (by omega)]
  | succ n ih =>
    intro p st n' h1 h2
    by_cases hp2 : hi ≤ p
    · rw [xrun_end (hi := hi) hp2]
      show _ = xrun lim cd fc hi' n' p st
      exact xrun_fuel _ _ _ _ (by omega) (by omega)
    · by_cases hl : lim ≤ st.length
      · rw [xrun_full (by omega) hl, xrun_full hp2 hl]; rfl
      · rw [xrun_go (by omega) hl, xrun_go hp2 hl]
        cases hs : xstep (cd p).1 (cd p).2 fc p st with
        | none => rfl
        | some o =>
          cases o with
          | none => rfl
          | some q =>
            have := xstep_lt hs
            exact ih q.1 q.2 n' (by omega) h2
theorem xrun_cong {lim : Nat} {cd cd' : Cd} {fc : Nat → Int32} {hi s : Nat} (hc : ∀ p, s ≤ p → p < hi → cd' p = cd p) : ∀ (n p : Nat) (st : List Int32), s ≤ p → xrun lim cd' fc hi n p st = xrun lim cd fc hi n p st := by
  intro n
  induction n with
  | zero => intro p st _; rw [xrun, xrun]
  | succ n ih =>
    intro p st hs
    by_cases hp : hi ≤ p
    · rw [xrun_end hp, xrun_end hp]
    · by_cases hl : lim ≤ st.length
      · rw [xrun_full hp hl, xrun_full hp hl]
      · rw [xrun_go hp hl, xrun_go hp hl, hc p hs (by omega)]
        cases hx : xstep (cd p).1 (cd p).2 fc p st with
        | none => rfl
        | some o =>
          cases o with
          | none => rfl
          | some q =>
            have := xstep_lt hx
            exact ih q.1 q.2 (by omega)
/-- a stretch of code that leaves one value more; need: by how much the stack may grow -/
def Seg (cd : Cd) (s t need : Nat) (v : VF) : Prop := s ≤ t ∧ ∀ (lim : Nat) (fc : Nat → Int32) (n : Nat) (st : List Int32), t ≤ s + n → st.length + need ≤ lim →
  xrun lim cd fc t n s st = some ((v fc).map (fun x => (t, x :: st)))
theorem Seg.cong {cd cd' : Cd} {s t need : Nat} {v : VF} (h : Seg cd s t need v) (hc : ∀ p, s ≤ p → p < t → cd' p = cd p) : Seg cd' s t need v :=
  ⟨h.1, fun lim fc n st h1 h2 => by rw [xrun_cong hc n s st (Nat.le_refl _)]; exact h.2 lim fc n st h1 h2⟩
theorem Seg.wide {cd : Cd} {s t need need' : Nat} {v : VF} (h : Seg cd s t need v) (hn : need ≤ need') : Seg cd s t need' v :=
  ⟨h.1, fun lim fc n st h1 h2 => h.2 lim fc n st h1 (by omega)⟩
/-- a stretch ahead of others -/
theorem Seg.ahead {cd : Cd} {s t need : Nat} {v : VF} (h : Seg cd s t need v) {lim : Nat} {fc : Nat → Int32} {hi n n' : Nat} {st : List Int32} (h1 : t ≤ hi) (h2 : hi ≤ s + n) (h3 : hi ≤ t + n') (h4 : st.length + need ≤ lim) :
    xrun lim cd fc hi n s st = bnd (some (v fc)) (fun x => xrun lim cd fc hi n' t (x :: st)) := by
  rw [xrun_split h1 n s st n' h2 h3, h.2 lim fc n st (by omega) h4]
  cases v fc <;> rfl
/-! what clauses tell. A clause: its head; whether it has a sum, a test; what they are worth -/
abbrev LawT : Type := Nat → VF
def clT (hd : Nat → Nat) (hs ht : Nat → Bool) (vs vt : Nat → VF) : Nat → LawT
  | 0, _, _ => none
  | i + 1, H, fc => if hd i = H ∧ (ht i = true → vt i fc = some 1) then (if hs i = true then ((vs i fc).elim (clT hd hs ht vs vt i H fc) some) else some 1) else clT hd hs ht vs vt i H fc
/-- class code out of steps -/
def cdC (st : Nat → Int32) : Cd := fun p => ((st p &&& 255).toNatClampNeg, (st p >>> ((8 : Int32) &&& 31)).toNatClampNeg)
/-- reference code: op and arg, told in the class's kinds -/
def kdM (o : Nat) : Nat := if o = 0 then 0 else if o < 20 then 1 else if o < 27 then o - 15 else if o = 27 then 2 else if o = 28 then 4 else 3
def cdM (g : Nat → Int32) : Cd := fun p => (kdM (g (98 + 2 * p)).toNatClampNeg, if (g (98 + 2 * p)).toNatClampNeg = 0 ∨ 27 < (g (98 + 2 * p)).toNatClampNeg then (g (98 + 2 * p + 1)).toNatClampNeg else (g (98 + 2 * p)).toNatClampNeg - 1)
/-- a code's clauses: where sums and tests lie (a, b: the sum; b, e: the test), what they are worth -/
def ClS (cd : Cd) (c : Nat) (a b b2 e : Nat → Nat) (hs ht : Nat → Bool) (vs vt : Nat → VF) : Prop := ∀ i, i < c → (hs i = true → a i < b i ∧ Seg cd (a i) (b i) 24 (vs i)) ∧ (hs i = false → a i = b i) ∧ (ht i = true → b2 i < e i ∧ Seg cd (b2 i) (e i) 24 (vt i)) ∧ (ht i = false → b2 i = e i)
/-- sums and tests are worth no number beyond bounds, where the facts aren't -/
def VOk (v : VF) : Prop := ∀ fc : Nat → Int32, (∀ i, i < 10 → -1000000000 ≤ (fc i).toInt ∧ (fc i).toInt ≤ 1000000000) → ∀ x, v fc = some x → -1000000000 ≤ x.toInt ∧ x.toInt ≤ 1000000000
/-- a test's worth is a truth value -/
def VZ (v : VF) : Prop := ∀ (fc : Nat → Int32) (x : Int32), v fc = some x → x = 0 ∨ x = 1
/-- a law of the class (heads hd, places pl, m steps st) and one of the reference (g), of c clauses, that tell T -/
def LawSem (hdC pl st : Nat → Int32) (c m : Nat) (g : Nat → Int32) (T : LawT) : Prop :=
  ∃ (hd : Nat → Nat) (hs ht : Nat → Bool) (vs vt : Nat → VF) (a b : Nat → Nat) (a' b' b2' e' : Nat → Nat) (m' : Nat),
    T = clT hd hs ht vs vt c ∧ c ≤ 12 ∧ m ≤ 400 ∧ m' ≤ 400 ∧ g 1 = nI c ∧ pl (2 * c) = nI (a c) ∧ a c ≤ m ∧
    (∀ i, i < c → hd i < 4 ∧ (hs i = decide (hd i < 2)) ∧ hdC i = nI (hd i) ∧ pl (2 * i) = nI (a i) ∧ pl (2 * i + 1) = nI (b i) ∧ a i ≤ b i ∧ b i ≤ a (i + 1) ∧ a (i + 1) ≤ a c ∧
      g (2 + 8 * i) = nI (hd i) ∧ g (2 + 8 * i + 3) = nI (a' i) ∧ g (2 + 8 * i + 4) = nI (b' i) ∧ g (2 + 8 * i + 5) = nI (b2' i) ∧ g (2 + 8 * i + 6) = nI (e' i) ∧ a' i ≤ b' i ∧ b' i ≤ m' ∧ b2' i ≤ e' i ∧ e' i ≤ m' ∧ VOk (vs i) ∧ VZ (vt i)) ∧
    ClS (cdC st) c a b b (fun i => a (i + 1)) hs ht vs vt ∧ ClS (cdM g) c a' b' b2' e' hs ht vs vt ∧
    (∀ p, p < m → ∃ k w : Nat, st p = nI (k + 256 * w) ∧ k < 12 ∧ w < 4096 ∧ (k = 1 → w < 10)) ∧
    (∀ p, p < m' → ∃ o w : Nat, g (98 + 2 * p) = nI o ∧ g (98 + 2 * p + 1) = nI w ∧ (o ≤ 10 ∨ (20 ≤ o ∧ o ≤ 29)) ∧ w < 4096 ∧ (27 < o → p < w))
/-- the cells of the laws: from 106 on -/
abbrev LvT : Type := Nat → (Nat × Nat) × (Nat → Int32) × (Nat → Option Nat)
def LV (h : Hp) : LvT := fun a => (hS h (106 + a), hI h (106 + a), hR h (106 + a))
theorem LV_sI {h : Hp} {a : Nat} (ha : a < 106) (i : Nat) (v : Int32) : LV (sI h a i v) = LV h := by
  funext b
  simp only [LV, hS_sI, hR_sI, hI_sIr, if_neg (show ¬ 106 + b = a by omega)]
theorem LV_sJ (h : Hp) (a i : Nat) (v : Int64) : LV (sJ h a i v) = LV h := rfl
theorem LV_wI {h : Hp} {a : Nat} (ha : a < 106) (f : Nat → Int32) : LV (wI h a f) = LV h := by
  funext b
  simp only [LV, hS_wI, hR_wI, hI_wI, if_neg (show ¬ 106 + b = a by omega)]
theorem LV_wJ (h : Hp) (a : Nat) (f : Nat → Int64) : LV (wJ h a f) = LV h := rfl
theorem LV_sR {h : Hp} {a : Nat} (ha : a < 106) (i : Nat) (v : Option Nat) : LV (sR h a i v) = LV h := by
  funext b
  simp only [LV, hS_sR, hI_sR, hR_sRr, if_neg (show ¬ 106 + b = a by omega)]
/-- the class's law at r, the reference's g: they tell T; n: how many cells there are -/
def LawR (L : LvT) (n : Nat) (r : Option Nat) (g : Nat → Int32) (T : LawT) : Prop := ∃ q c m : Nat, r = some (106 + q) ∧ 106 + q + 3 < n ∧ (L q).1 = (12, 3) ∧ (L q).2.2 0 = some (106 + q + 1) ∧ (L q).2.2 1 = some (106 + q + 2) ∧ (L q).2.2 2 = some (106 + q + 3) ∧
  (L (q + 1)).1 = (1, c) ∧ (L (q + 2)).1 = (1, 2 * c + 1) ∧ (L (q + 3)).1 = (1, m) ∧ LawSem (L (q + 1)).2.1 (L (q + 2)).2.1 (L (q + 3)).2.1 c m g T
