/-! THE STATE of the class (scalars s, rows af pf us kn tm, laws lw, rows ls td) and the reference's row f: they say the same -/
def CntR (s f : Nat → Int32) (na np nl ns nt : Nat) : Prop := (na ≤ 8 ∧ np ≤ 8 ∧ nl ≤ 6 ∧ ns ≤ 7 ∧ nt ≤ np) ∧ (s 0 = nI na ∧ s 1 = nI np ∧ s 9 = nI nl ∧ s 12 = nI ns ∧ s 14 = nI nt) ∧ (f 0 = nI na ∧ f 1 = nI np ∧ f 2 = nI nl ∧ f 8 = nI ns ∧ f 9 = nI nt)
def FrcR (s f : Nat → Int32) (nl : Nat) : Prop := s 10 = f 3 ∧ (f 3 = -1 ∨ ∃ i, i < nl ∧ f 3 = nI i)
def IllR (s f : Nat → Int32) (na : Nat) : Prop := s 6 = f 4 ∧ ∃ b, b < 2 ^ na ∧ f 4 = nI b
def TrmR (tm f : Nat → Int32) : Prop := ∃ a b c, (tm 0 = nI a ∧ f 5 = nI a ∧ a ≤ 9) ∧ (tm 1 = nI b ∧ f 6 = nI b ∧ b ≤ 1) ∧ tm 2 = nI c ∧ f 7 = nI c ∧ c ≤ 99
def AfR (af f : Nat → Int32) : Prop := (∀ i, i < 32 → af i = f (10 + i) ∧ ∃ v, v ≤ 220 ∧ f (10 + i) = nI v) ∧ ∀ a, a < 8 → ∃ v, v ≤ 100 ∧ f (10 + (4 * a + 3)) = nI v
def PfR (pf f : Nat → Int32) : Prop := ∀ p, p < 8 → ∀ k, k < 3 → pf (3 * p + k) = f (42 + 4 * p + k) ∧ ∃ v, v ≤ 255 ∧ f (42 + 4 * p + k) = nI v
def UsR (us f : Nat → Int32) (na np : Nat) : Prop := (∀ p, p < np → us p = f (42 + 4 * p + 3) ∧ (us p = -1 ∨ ∃ a, a < na ∧ us p = nI a)) ∧ ∀ p, np ≤ p → p < 8 → us p = -1
def KnR (kn f : Nat → Int32) : Prop := ∀ i, i < 64 → kn i = f (74 + i) ∧ ∃ v, v ≤ 9 ∧ kn i = nI v
def LsR (ls f : Nat → Int32) (na np ns : Nat) : Prop := ∀ q, q < ns → ∃ a p w hr, (a < na ∧ p < np ∧ 1 ≤ w ∧ w ≤ 9 ∧ 1 ≤ hr ∧ hr ≤ 99) ∧ (ls (4 * q) = nI a ∧ ls (4 * q + 1) = nI p ∧ ls (4 * q + 2) = nI w ∧ ls (4 * q + 3) = nI hr) ∧ f (138 + 4 * q) = nI a ∧ f (138 + 4 * q + 1) = nI p ∧ f (138 + 4 * q + 2) = nI w ∧ f (138 + 4 * q + 3) = nI hr
def TdR (td f : Nat → Int32) (na nt : Nat) : Prop := ∀ i, i < nt → ∃ a, a < na ∧ td i = nI a ∧ f (166 + i) = nI a
def LwR (lw : Nat → Option Nat) (L : LvT) (n : Nat) (f : Nat → Int32) (nl : Nat) (Tl : Nat → LawT) : Prop := ∀ i, i < nl → LawR L n (lw i) (fun k => f (180 + 900 * i + k)) (Tl i)
def SRv (s af pf us kn tm : Nat → Int32) (lw : Nat → Option Nat) (ls td : Nat → Int32) (L : LvT) (n : Nat) (f : Nat → Int32) (na np nl ns nt : Nat) (Tl : Nat → LawT) : Prop :=
  CntR s f na np nl ns nt ∧ FrcR s f nl ∧ IllR s f na ∧ TrmR tm f ∧ AfR af f ∧ PfR pf f ∧ UsR us f na np ∧ KnR kn f ∧ LsR ls f na np ns ∧ TdR td f na nt ∧ LwR lw L n f nl Tl
/-- f and f' are the same at all places but those of the set S -/
def Off (S : Nat → Prop) (f f' : Nat → Int32) : Prop := ∀ i, ¬ S i → f' i = f i
theorem Off.up (f : Nat → Int32) (k : Nat) (v : Int32) : Off (fun i => i = k) f (va_up f k v) := fun i hi => if_neg hi
theorem CntR.off {s f f' : Nat → Int32} {na np nl ns nt : Nat} (x : CntR s f na np nl ns nt) (h : f' 0 = f 0 ∧ f' 1 = f 1 ∧ f' 2 = f 2 ∧ f' 8 = f 8 ∧ f' 9 = f 9) : CntR s f' na np nl ns nt := by
  obtain ⟨a, b, c⟩ := x
  exact ⟨a, b, by rw [h.1, h.2.1, h.2.2.1, h.2.2.2.1, h.2.2.2.2]; exact c⟩
theorem FrcR.off {s f f' : Nat → Int32} {nl : Nat} (x : FrcR s f nl) (h : f' 3 = f 3) : FrcR s f' nl := by
  unfold FrcR at x ⊢; rw [h]; exact x
theorem IllR.off {s f f' : Nat → Int32} {na : Nat} (x : IllR s f na) (h : f' 4 = f 4) : IllR s f' na := by
  unfold IllR at x ⊢; rw [h]; exact x
theorem TrmR.off {tm f f' : Nat → Int32} (x : TrmR tm f) (h : f' 5 = f 5 ∧ f' 6 = f 6 ∧ f' 7 = f 7) : TrmR tm f' := by
  unfold TrmR at x ⊢; rw [h.1, h.2.1, h.2.2]; exact x
theorem AfR.off {af f f' : Nat → Int32} (x : AfR af f) (h : ∀ i, 10 ≤ i → i < 42 → f' i = f i) : AfR af f' := by
  refine ⟨fun i hi => ?_, fun a ha => ?_⟩
  · rw [h (10 + i) (by omega) (by omega)]; exact x.1 i hi
  · rw [h (10 + (4 * a + 3)) (by omega) (by omega)]; exact x.2 a ha
theorem PfR.off {pf f f' : Nat → Int32} (x : PfR pf f) (h : ∀ i, 42 ≤ i → i < 74 → f' i = f i) : PfR pf f' := by
  intro p hp k hk
  rw [h (42 + 4 * p + k) (by omega) (by omega)]; exact x p hp k hk
theorem UsR.off {us f f' : Nat → Int32} {na np : Nat} (x : UsR us f na np) (hn : np ≤ 8) (h : ∀ i, 42 ≤ i → i < 74 → f' i = f i) : UsR us f' na np := by
  refine ⟨fun p hp => ?_, x.2⟩
  rw [h (42 + 4 * p + 3) (by omega) (by omega)]; exact x.1 p hp
theorem KnR.off {kn f f' : Nat → Int32} (x : KnR kn f) (h : ∀ i, 74 ≤ i → i < 138 → f' i = f i) : KnR kn f' := by
  intro i hi
  rw [h (74 + i) (by omega) (by omega)]; exact x i hi
theorem LsR.off {ls f f' : Nat → Int32} {na np ns : Nat} (x : LsR ls f na np ns) (hn : ns ≤ 7) (h : ∀ i, 138 ≤ i → i < 166 → f' i = f i) : LsR ls f' na np ns := by
  intro q hq
  rw [h (138 + 4 * q) (by omega) (by omega), h (138 + 4 * q + 1) (by omega) (by omega), h (138 + 4 * q + 2) (by omega) (by omega), h (138 + 4 * q + 3) (by omega) (by omega)]; exact x q hq
theorem TdR.off {td f f' : Nat → Int32} {na nt : Nat} (x : TdR td f na nt) (hn : nt ≤ 8) (h : ∀ i, 166 ≤ i → i < 174 → f' i = f i) : TdR td f' na nt := by
  intro q hq
  rw [h (166 + q) (by omega) (by omega)]; exact x q hq
theorem LawSem.off {hdC pl st : Nat → Int32} {c m : Nat} {g g' : Nat → Int32} {T : LawT} (x : LawSem hdC pl st c m g T) (h : ∀ i, i < 900 → g' i = g i) : LawSem hdC pl st c m g' T := by
  obtain ⟨hd, hs, ht, vs, vt, a, b, a', b', b2', e', m', h1, h2, h3, h4, h5, h6, h7, h8, h9, h10, h11, h12⟩ := x
  have hcd : ∀ p, p < 400 → cdM g' p = cdM g p := by
    intro p hp
    simp only [cdM, h (98 + 2 * p) (by omega), h (98 + 2 * p + 1) (by omega)]
  refine ⟨hd, hs, ht, vs, vt, a, b, a', b', b2', e', m', h1, h2, h3, h4, by rw [h 1 (by omega)]; exact h5, h6, h7, fun i hi => ?_, h9, fun i hi => ?_, h11, fun p hp => ?_⟩
  · have := h8 i hi
    rw [h (2 + 8 * i) (by omega), h (2 + 8 * i + 3) (by omega), h (2 + 8 * i + 4) (by omega), h (2 + 8 * i + 5) (by omega), h (2 + 8 * i + 6) (by omega)]
    exact this
  · obtain ⟨-, -, -, -, -, -, -, -, -, -, -, -, -, -, k1, -, k2, -⟩ := h8 i hi
    obtain ⟨q1, q2, q3, q4⟩ := h10 i hi
    refine ⟨fun e => ⟨(q1 e).1, (q1 e).2.cong fun p _ hp => hcd p (by omega)⟩, q2, fun e => ⟨(q3 e).1, (q3 e).2.cong fun p _ hp => hcd p (by omega)⟩, q4⟩
  · rw [h (98 + 2 * p) (by omega), h (98 + 2 * p + 1) (by omega)]
    exact h12 p hp
theorem LwR.off {lw : Nat → Option Nat} {L : LvT} {n : Nat} {f f' : Nat → Int32} {nl : Nat} {Tl : Nat → LawT} (x : LwR lw L n f nl Tl) (hn : nl ≤ 6) (h : ∀ i, 180 ≤ i → i < 5580 → f' i = f i) : LwR lw L n f' nl Tl := by
  intro i hi
  obtain ⟨q, c, m, h1, h2, h3, h4, h5, h6, h7, h8, h9, hs⟩ := x i hi
  exact ⟨q, c, m, h1, h2, h3, h4, h5, h6, h7, h8, h9, hs.off fun k hk => h (180 + 900 * i + k) (by omega) (by omega)⟩
