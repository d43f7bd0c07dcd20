/-! numbers: literals beside nI; the side conditions go to omega -/
theorem nL_of (n : Nat) : Int32.ofNat n = nI n := rfl
theorem nL_add (a n : Nat) : nI a + no_index (OfNat.ofNat n : Int32) = nI (a + OfNat.ofNat n) := nI_add a n
theorem nL_addr (a n : Nat) : no_index (OfNat.ofNat n : Int32) + nI a = nI (OfNat.ofNat n + a) := nI_add n a
theorem nL_mul (a n : Nat) : nI a * no_index (OfNat.ofNat n : Int32) = nI (OfNat.ofNat n * a) := by
  show nI a * nI n = nI (n * a)
  rw [pk_mul, Nat.mul_comm]
theorem nL_mulr (a n : Nat) : no_index (OfNat.ofNat n : Int32) * nI a = nI (OfNat.ofNat n * a) := pk_mul n a
theorem nL_sub {a n : Nat} (h : OfNat.ofNat n ≤ a) : nI a - no_index (OfNat.ofNat n : Int32) = nI (a - OfNat.ofNat n) := pk_sub h
theorem nL_subr {a n : Nat} (h : a ≤ OfNat.ofNat n) : no_index (OfNat.ofNat n : Int32) - nI a = nI (OfNat.ofNat n - a) := pk_sub h
theorem nL_le {a n : Nat} (ha : a < 2 ^ 31) (hn : (OfNat.ofNat n : Nat) < 2 ^ 31) : (nI a ≤ no_index (OfNat.ofNat n : Int32)) ↔ a ≤ OfNat.ofNat n := nI_leI ha hn
theorem nL_ler {a n : Nat} (ha : a < 2 ^ 31) (hn : (OfNat.ofNat n : Nat) < 2 ^ 31) : (no_index (OfNat.ofNat n : Int32) ≤ nI a) ↔ OfNat.ofNat n ≤ a := nI_leI hn ha
theorem nL_lt {a n : Nat} (ha : a < 2 ^ 31) (hn : (OfNat.ofNat n : Nat) < 2 ^ 31) : (nI a < no_index (OfNat.ofNat n : Int32)) ↔ a < OfNat.ofNat n := nI_ltI ha hn
theorem nL_ltr {a n : Nat} (ha : a < 2 ^ 31) (hn : (OfNat.ofNat n : Nat) < 2 ^ 31) : (no_index (OfNat.ofNat n : Int32) < nI a) ↔ OfNat.ofNat n < a := nI_ltI hn ha
theorem nL_eq {a n : Nat} (ha : a < 2 ^ 31) (hn : (OfNat.ofNat n : Nat) < 2 ^ 31) : (nI a = no_index (OfNat.ofNat n : Int32)) ↔ a = OfNat.ofNat n := nI_eq ha hn
theorem nL_eqr {a n : Nat} (ha : a < 2 ^ 31) (hn : (OfNat.ofNat n : Nat) < 2 ^ 31) : (no_index (OfNat.ofNat n : Int32) = nI a) ↔ OfNat.ofNat n = a := nI_eq hn ha
theorem nL_ll {m n : Nat} (hm : (OfNat.ofNat m : Nat) < 2 ^ 31) (hn : (OfNat.ofNat n : Nat) < 2 ^ 31) : (no_index (OfNat.ofNat m : Int32) = no_index (OfNat.ofNat n : Int32)) ↔ (OfNat.ofNat m : Nat) = OfNat.ofNat n := nI_eq hm hn
theorem nL_clamp {n : Nat} (hn : (OfNat.ofNat n : Nat) < 2 ^ 31) : (no_index (OfNat.ofNat n : Int32)).toNatClampNeg = OfNat.ofNat n := nI_clamp hn
theorem nL_in {n N : Nat} (h : OfNat.ofNat n < N) (hN : N < 2 ^ 31) : vp_in (no_index (OfNat.ofNat n : Int32)) N := vp_in_nI h hN
theorem nL_m1 {a : Nat} (ha : a < 2 ^ 31) : (nI a = -1) ↔ False := by
  refine ⟨fun q => ?_, False.elim⟩
  have := congrArg Int32.toInt q
  rw [nI_toInt ha, show ((-1 : Int32)).toInt = -1 from rfl] at this
  omega
theorem nL_m1r {a : Nat} (ha : a < 2 ^ 31) : (-1 = nI a) ↔ False := by rw [eq_comm]; exact nL_m1 ha
theorem i_m1p (x : Int32) : x + -1 + 1 = x := by rw [Int32.add_assoc, show (-1 : Int32) + 1 = 0 from rfl, Int32.add_zero]
theorem pR_n {t x : Option Nat} {b : Nat} (ht : t = none) (hx : x = some b) (f : Value → Prop) : pR t x f = f (.ref b) := by rw [ht, hx]; rfl
theorem pR_n0 {t x : Option Nat} (ht : t = none) (hx : x = none) (f : Value → Prop) : pR t x f = f .null := by rw [ht, hx]; rfl
/-! what a call leaves: cells and places outside S -/
def Kp (S : Nat → Nat → Prop) (h h2 : Hp) : Prop := (∀ a, hS h2 a = hS h a) ∧ hN h2 = hN h ∧ (∀ a i, ¬ S a i → hI h2 a i = hI h a i ∧ hJ h2 a i = hJ h a i ∧ hR h2 a i = hR h a i) ∧ ∀ a f, rfT a f ≠ none → hR h2 a f = hR h a f
section KP
variable {S S' : Nat → Nat → Prop} {h h2 h3 : Hp}
theorem Kp.refl (h : Hp) : Kp S h h := ⟨fun _ => rfl, rfl, fun _ _ _ => ⟨rfl, rfl, rfl⟩, fun _ _ _ => rfl⟩
theorem Kp.trans (a : Kp S h h2) (b : Kp S h2 h3) : Kp S h h3 := ⟨fun x => (b.1 x).trans (a.1 x), b.2.1.trans a.2.1, fun x i hx => ⟨(b.2.2.1 x i hx).1.trans (a.2.2.1 x i hx).1, (b.2.2.1 x i hx).2.1.trans (a.2.2.1 x i hx).2.1, (b.2.2.1 x i hx).2.2.trans (a.2.2.1 x i hx).2.2⟩, fun x f hf => (b.2.2.2 x f hf).trans (a.2.2.2 x f hf)⟩
theorem Kp.mono (a : Kp S h h2) (hs : ∀ x i, S x i → S' x i) : Kp S' h h2 := ⟨a.1, a.2.1, fun x i hx => a.2.2.1 x i (fun q => hx (hs x i q)), a.2.2.2⟩
theorem Kp.wf (a : Kp S h h2) (w : WF h) : WF h2 := ⟨by rw [a.2.1]; exact w.1, fun x hx hb => by rw [a.1]; exact w.2.1 x hx hb, fun x f hf => by rw [a.2.2.2 x f hf]; exact w.2.2 x f hf⟩
theorem Kp.i (a : Kp S h h2) {x i : Nat} (hx : ¬ S x i) : hI h2 x i = hI h x i := (a.2.2.1 x i hx).1
theorem Kp.j (a : Kp S h h2) {x i : Nat} (hx : ¬ S x i) : hJ h2 x i = hJ h x i := (a.2.2.1 x i hx).2.1
theorem Kp.r (a : Kp S h h2) {x i : Nat} (hx : ¬ S x i) : hR h2 x i = hR h x i := (a.2.2.1 x i hx).2.2
theorem Kp.I (a : Kp S h h2) {x : Nat} (hx : ∀ i, ¬ S x i) : hI h2 x = hI h x := funext fun i => a.i (hx i)
theorem Kp.J (a : Kp S h h2) {x : Nat} (hx : ∀ i, ¬ S x i) : hJ h2 x = hJ h x := funext fun i => a.j (hx i)
theorem Kp.R (a : Kp S h h2) {x : Nat} (hx : ∀ i, ¬ S x i) : hR h2 x = hR h x := funext fun i => a.r (hx i)
theorem Kp.sI (a : Kp S h h2) {x i : Nat} {v : Int32} (hs : S x i) : Kp S h (sI h2 x i v) := by
  refine ⟨a.1, a.2.1, fun y j hy => ⟨?_, a.j hy, a.r hy⟩, a.2.2.2⟩
  rw [hI_sI, if_neg (fun q => hy (by rw [q.1, q.2]; exact hs))]
  exact a.i hy
theorem Kp.sJ (a : Kp S h h2) {x i : Nat} {v : Int64} (hs : S x i) : Kp S h (sJ h2 x i v) := by
  refine ⟨a.1, a.2.1, fun y j hy => ⟨a.i hy, ?_, a.r hy⟩, a.2.2.2⟩
  rw [hJ_sJ, if_neg (fun q => hy (by rw [q.1, q.2]; exact hs))]
  exact a.j hy
theorem Kp.sR (a : Kp S h h2) {x i : Nat} {v : Option Nat} (hs : S x i) (hr : rfT x i = none) : Kp S h (sR h2 x i v) := by
  refine ⟨a.1, a.2.1, fun y j hy => ⟨a.i hy, a.j hy, ?_⟩, fun y j hj => ?_⟩
  · rw [hR_sR, if_neg (fun q => hy (by rw [q.1, q.2]; exact hs))]
    exact a.r hy
  · rw [hR_sR, if_neg (fun q => hj (by rw [q.1, q.2]; exact hr))]
    exact a.2.2.2 y j hj
theorem Kp.wI (a : Kp S h h2) {x : Nat} {f : Nat → Int32} (hs : ∀ i, S x i) : Kp S h (wI h2 x f) := by
  refine ⟨a.1, a.2.1, fun y j hy => ⟨?_, a.j hy, a.r hy⟩, a.2.2.2⟩
  rw [hI_wI, if_neg (fun q => hy (by rw [q]; exact hs j))]
  exact a.i hy
theorem Kp.wJ (a : Kp S h h2) {x : Nat} {f : Nat → Int64} (hs : ∀ i, S x i) : Kp S h (wJ h2 x f) := by
  refine ⟨a.1, a.2.1, fun y j hy => ⟨a.i hy, ?_, a.r hy⟩, a.2.2.2⟩
  rw [hJ_wJ, if_neg (fun q => hy (by rw [q]; exact hs j))]
  exact a.j hy
theorem Kp.lv (a : Kp S h h2) (hs : ∀ x i, 106 ≤ x → ¬ S x i) : LV h2 = LV h := by
  funext b
  simp only [LV, a.1, a.I (fun i => hs (106 + b) i (by omega)), a.R (fun i => hs (106 + b) i (by omega))]
end KP
/-! locals that no longer matter -/
def Wk : Lv → Lv → Prop
  | [], [] => True
  | none :: t, _ :: u => Wk t u
  | some v :: t, w :: u => w = some v ∧ Wk t u
  | _, _ => False
theorem wk_get : ∀ {a b : Lv} {n : Nat} {v : Value}, Wk a b → a[n]? = some (some v) → b[n]? = some (some v)
  | [], _, n, v, _, h => by simp at h
  | none :: t, [], n, v, w, _ => w.elim
  | none :: t, y :: u, 0, v, _, h => by simp at h
  | none :: t, y :: u, n + 1, v, w, h => by
    rw [List.getElem?_cons_succ] at h ⊢
    exact wk_get (a := t) (b := u) w h
  | some x :: t, [], n, v, w, _ => w.elim
  | some x :: t, y :: u, 0, v, w, h => by
    rw [List.getElem?_cons_zero] at h ⊢
    rw [w.1]; exact h
  | some x :: t, y :: u, n + 1, v, w, h => by
    rw [List.getElem?_cons_succ] at h ⊢
    exact wk_get (a := t) (b := u) w.2 h
theorem Go.wk {l : Launch} {E : Ev} {Y : My} {d mc ms : Nat} {Q : Option Value → Hp → Prop} {cells slots pc : Nat} {ls ls' : Lv} {st : List Value} {h : Hp} (hk : Go l E Y d mc ms Q cells slots pc ls' st h) (hw : Wk ls' ls) : Go l E Y d mc ms Q cells slots pc ls st h :=
  fun p e s m args below meth c C H locs lsm rp sv hL => hk p e s m args below meth c C H locs lsm rp sv ⟨hL.1, hL.2.1, fun n v hn => hL.2.2 n v (wk_get hw hn)⟩
/-! steps that a simp call keeps apart -/
theorem kk_iaload (k : Kt) (ls : Lv) (st : List Value) (h : Hp) : k_iaload k ls st h = (popir st fun i a r => (hS h a).1 = 1 ∧ vp_in i (hS h a).2 ∧ k ls (.int (hI h a i.toNatClampNeg) :: r) h) := propext Iff.rfl
theorem kk_laload (k : Kt) (ls : Lv) (st : List Value) (h : Hp) : k_laload k ls st h = (popir st fun i a r => (hS h a).1 = 2 ∧ vp_in i (hS h a).2 ∧ k ls (.long (hJ h a i.toNatClampNeg) :: r) h) := propext Iff.rfl
theorem kk_zaload (k : Kt) (ls : Lv) (st : List Value) (h : Hp) : k_zaload k ls st h = (popir st fun i a r => 9 ≤ a ∧ (hS h a).1 = 3 ∧ vp_in i (hS h a).2 ∧ k ls (.int (hI h a i.toNatClampNeg) :: r) h) := propext Iff.rfl
theorem kk_callV (l : Launch) (E : Ev) (ci N : Nat) (Y' : My) (d' mc' ms' n : Nat) (k : Kt) (ls : Lv) (st : List Value) (h : Hp) : k_callV l E ci N Y' d' mc' ms' n k ls st h = (popNK n [] st fun as rest0 => pop1r rest0 fun b rest => 9 ≤ b ∧ hS h b = (10 + ci, N) ∧ catS rest ≤ 8 ∧ GoM l E Y' d' mc' ms' (.ref b :: as) h (kont k ls rest)) := propext Iff.rfl
theorem kk_callS (l : Launch) (E : Ev) (Y' : My) (d' mc' ms' n : Nat) (k : Kt) (ls : Lv) (st : List Value) (h : Hp) : k_callS l E Y' d' mc' ms' n k ls st h = (popNK n [] st fun as rest => catS rest ≤ 8 ∧ GoM l E Y' d' mc' ms' as h (kont k ls rest)) := propext Iff.rfl
theorem kk_callI (l : Launch) (E : Ev) (Y' : My) (d' mc' ms' n : Nat) (k : Kt) (ls : Lv) (st : List Value) (h : Hp) : k_callI l E Y' d' mc' ms' n k ls st h = (popNK n [] st fun as rest0 => pop1r rest0 fun b rest => catS rest ≤ 8 ∧ GoM l E Y' d' mc' ms' (.ref b :: as) h (kont k ls rest)) := propext Iff.rfl
