theorem SRv.offF {s af pf us kn tm : Nat → Int32} {lw : Nat → Option Nat} {ls td : Nat → Int32} {L : LvT} {n : Nat} {f f' : Nat → Int32} {na np nl ns nt : Nat} {Tl : Nat → LawT} (x : SRv s af pf us kn tm lw ls td L n f na np nl ns nt Tl) (h : ∀ i, i < 5580 → f' i = f i) : SRv s af pf us kn tm lw ls td L n f' na np nl ns nt Tl := by
  obtain ⟨x1, x2, x3, x4, x5, x6, x7, x8, x9, x10, x11⟩ := x
  have hn := x1.1
  exact ⟨x1.off ⟨h _ (by omega), h _ (by omega), h _ (by omega), h _ (by omega), h _ (by omega)⟩, x2.off (h _ (by omega)), x3.off (h _ (by omega)), x4.off ⟨h _ (by omega), h _ (by omega), h _ (by omega)⟩, x5.off (fun i _ _ => h i (by omega)), x6.off (fun i _ _ => h i (by omega)), x7.off hn.2.1 (fun i _ _ => h i (by omega)), x8.off (fun i _ _ => h i (by omega)), x9.off hn.2.2.2.1 (fun i _ _ => h i (by omega)), x10.off (by omega) (fun i _ _ => h i (by omega)), x11.off hn.2.2.1 (fun i _ h2 => h i h2)⟩
def ImgV (c m : Int32) (s af pf us kn tm : Nat → Int32) (lw : Nat → Option Nat) (ls td : Nat → Int32) (L : LvT) (n : Nat) (f : Nat → Int32) : Prop := c = m ∧ zb c ∧ (c = 1 → ∃ (na np nl ns nt : Nat) (Tl : Nat → LawT), SRv s af pf us kn tm lw ls td L n f na np nl ns nt Tl)
def TapeV (len : Int32) (by_ : Nat → Int32) (tp : Int32) (tape : Nat → Int32) : Prop := ∃ n, n ≤ 400 ∧ len = nI n ∧ tp = nI n ∧ ∀ j, j < n → by_ j = tape j ∧ ∃ v, v < 256 ∧ tape j = nI v
/-- fault, forgot, status; how many were refused -/
def MisV (f1 f2 g1 g2 s1 s2 : Int32) (r q : Nat → Int32) : Prop := f1 = f2 ∧ g1 = g2 ∧ s1 = s2 ∧ r 0 = q 1 ∧ r 1 = q 2 ∧ r 2 = q 3 ∧ r 3 = q 5 ∧ r 4 = q 6
def NoN : Int64 := 1152921504606846976
def cIn (x : Int64) : Int32 := if NoN ≤ x then -1 else (x >>> ((24 : Int32).toInt64 &&& 63)).toInt32
def pIn (x : Int64) (p : Int32) : Int32 := if NoN ≤ x then -1 else (x >>> ((3 * (7 - p)).toInt64 &&& 63)).toInt32 &&& 7
def NightV (x : Int64) (np : Nat) (w : Nat → Int32) : Prop := w 0 = cIn x ∧ (∀ p, p < np → w (1 + p) = pIn x (nI p)) ∧ ∀ p, np ≤ p → p < 8 → w (1 + p) = -1
/-- the latest season -/
def SeaV (s ill : Nat → Int32) (ng : Nat → Int64) (kn : Nat → Int32) (mw ma mp : Int32) (weeks learnt : Nat → Int32) : Prop := ∃ nw na np : Nat, (nw ≤ 40 ∧ na ≤ 8 ∧ np ≤ 8) ∧ (s 0 = nI nw ∧ s 1 = nI na ∧ s 2 = nI np) ∧ (mw = nI nw ∧ ma = nI na ∧ mp = nI np) ∧ (nw = 0 → na = 0) ∧ (∀ i, i < nw → ill i = weeks (10 * i) ∧ NightV (ng i) np (fun k => weeks (10 * i + 1 + k))) ∧ ∀ a, a < na → ∀ p, p < np → kn (8 * a + p) = learnt (8 * a + p)
/-- the reference's words -/
def LwW (h : Hp) : Prop := ∀ a, (a = 16 ∨ a = 26 ∨ a = 35) → ∀ i, i < 6 → hR h a i = none ∨ ∃ x, 106 ≤ x ∧ x < hN h ∧ hR h a i = some x ∧ hS h x = (12, 3)
theorem LwW.of {h h2 : Hp} (s : LwW h) (h16 : hR h2 16 = hR h 16) (h26 : hR h2 26 = hR h 26) (h35 : hR h2 35 = hR h 35) (hs : ∀ a, hS h2 a = hS h a) (hn : hN h2 = hN h) : LwW h2 := by
  intro a ha i hi
  have e : hR h2 a = hR h a := by rcases ha with rfl | rfl | rfl <;> assumption
  rw [e, hn]
  rcases s a ha i hi with q | ⟨x, q1, q2, q3, q4⟩
  · exact Or.inl q
  · exact Or.inr ⟨x, q1, q2, q3, by rw [hs]; exact q4⟩
def MCo (h : Hp) : Prop := ((hJ h 90 0 = 1167858 ∧ hJ h 90 1 = 525908 ∧ hJ h 90 2 = 273980692 ∧ hJ h 90 3 = 113716 ∧ hJ h 90 4 = 24282707 ∧ hJ h 90 5 = 23569509 ∧ hJ h 90 6 = 638407 ∧ hJ h 90 7 = 12009203 ∧ hJ h 90 8 = 22664236 ∧ hJ h 90 9 = 758955) ∧ hJ h 91 0 = 114292 ∧ hJ h 91 1 = 6328499 ∧ hJ h 91 2 = 67155 ∧ hJ h 91 3 = 398995) ∧ LwW h
abbrev SR0 (h : Hp) (na np nl ns nt : Nat) (Tl : Nat → LawT) : Prop := SRv (hI h 10) (hI h 11) (hI h 12) (hI h 13) (hI h 14) (hI h 15) (hR h 16) (hI h 17) (hI h 18) (LV h) (hN h) (hI h 81) na np nl ns nt Tl
/-- all but what the class keeps beside (fresh) -/
def Inv0 (h : Hp) (na np nl ns nt : Nat) (Tl : Nat → LawT) : Prop := WF h ∧ ST h ∧ MCo h ∧ SR0 h na np nl ns nt Tl ∧
  ImgV (hI h 38 0) (hI h 83 0) (hI h 20) (hI h 21) (hI h 22) (hI h 23) (hI h 24) (hI h 25) (hR h 26) (hI h 27) (hI h 28) (LV h) (hN h) (hI h 82) ∧
  ImgV (hI h 38 1) (hI h 83 1) (hI h 29) (hI h 30) (hI h 31) (hI h 32) (hI h 33) (hI h 34) (hR h 35) (hI h 36) (hI h 37) (LV h) (hN h) (fun i => hI h 82 (5580 + i)) ∧
  TapeV (hI h 9 4) (hI h 39) (hI h 79 8) (hI h 84) ∧ MisV (hI h 9 6) (hI h 79 13) (hI h 9 7) (hI h 79 6) (hI h 9 9) (hI h 79 1) (hI h 47) (hI h 80) ∧
  SeaV (hI h 74) (hI h 75) (hJ h 76) (hI h 77) (hI h 79 52) (hI h 79 53) (hI h 79 54) (hI h 103) (hI h 104)
/-- an int's place in a row of the reference: f with k put to v -/
theorem up_off {f : Nat → Int32} {k j : Nat} {v : Int32} (h : j ≠ k) : va_up f k v j = f j := if_neg h
theorem up_self {f : Nat → Int32} {k : Nat} {v : Int32} : va_up f k v k = v := if_pos rfl
section UPD
variable {s af pf us kn tm : Nat → Int32} {lw : Nat → Option Nat} {ls td : Nat → Int32} {L : LvT} {n : Nat} {f : Nat → Int32} {na np nl ns nt : Nat} {Tl : Nat → LawT}
/-- an actor's fact -/
theorem SRv.turn (x : SRv s af pf us kn tm lw ls td L n f na np nl ns nt Tl) {a k v : Nat} (ha : a < 8) (hk : k < 4) (hv : v ≤ 220) (hv2 : k = 3 → v ≤ 100) : SRv s (va_up af (4 * a + k) (nI v)) pf us kn tm lw ls td L n (va_up f (10 + (4 * a + k)) (nI v)) na np nl ns nt Tl := by
  obtain ⟨x1, x2, x3, x4, x5, x6, x7, x8, x9, x10, x11⟩ := x
  have hn := x1.1
  refine ⟨x1.off ⟨up_off (by omega), up_off (by omega), up_off (by omega), up_off (by omega), up_off (by omega)⟩, x2.off (up_off (by omega)), x3.off (up_off (by omega)), x4.off ⟨up_off (by omega), up_off (by omega), up_off (by omega)⟩, ?_, x6.off (fun i _ _ => up_off (by omega)), x7.off hn.2.1 (fun i _ _ => up_off (by omega)), x8.off (fun i _ _ => up_off (by omega)), x9.off hn.2.2.2.1 (fun i _ _ => up_off (by omega)), x10.off (by omega) (fun i _ _ => up_off (by omega)), x11.off hn.2.2.1 (fun i _ h2 => up_off (by omega))⟩
  refine ⟨fun i hi => ?_, fun b hb => ?_⟩
  · by_cases e : i = 4 * a + k
    · subst e; rw [up_self, up_self]; exact ⟨rfl, v, hv, rfl⟩
    · rw [up_off e, up_off (by omega)]; exact x5.1 i hi
  · by_cases e : 4 * b + 3 = 4 * a + k
    · rw [e, up_self]; exact ⟨v, hv2 (by omega), rfl⟩
    · rw [up_off (by omega)]; exact x5.2 b hb
/-- a part's fact -/
theorem SRv.alter (x : SRv s af pf us kn tm lw ls td L n f na np nl ns nt Tl) {p k v : Nat} (hp : p < 8) (hk : k < 3) (hv : v ≤ 255) : SRv s af (va_up pf (3 * p + k) (nI v)) us kn tm lw ls td L n (va_up f (42 + 4 * p + k) (nI v)) na np nl ns nt Tl := by
  obtain ⟨x1, x2, x3, x4, x5, x6, x7, x8, x9, x10, x11⟩ := x
  have hn := x1.1
  refine ⟨x1.off ⟨up_off (by omega), up_off (by omega), up_off (by omega), up_off (by omega), up_off (by omega)⟩, x2.off (up_off (by omega)), x3.off (up_off (by omega)), x4.off ⟨up_off (by omega), up_off (by omega), up_off (by omega)⟩, x5.off (fun i _ _ => up_off (by omega)), ?_, ?_, x8.off (fun i _ _ => up_off (by omega)), x9.off hn.2.2.2.1 (fun i _ _ => up_off (by omega)), x10.off (by omega) (fun i _ _ => up_off (by omega)), x11.off hn.2.2.1 (fun i _ h2 => up_off (by omega))⟩
  · intro q hq j hj
    by_cases e : 3 * q + j = 3 * p + k
    · have e2 : 42 + 4 * q + j = 42 + 4 * p + k := by omega
      rw [e, e2, up_self, up_self]; exact ⟨rfl, v, hv, rfl⟩
    · rw [up_off e, up_off (by omega)]; exact x6 q hq j hj
  · refine ⟨fun q hq => ?_, x7.2⟩
    rw [up_off (by omega)]
    exact x7.1 q hq
/-- who plays a part usually -/
theorem SRv.usual (x : SRv s af pf us kn tm lw ls td L n f na np nl ns nt Tl) {p : Nat} {v : Int32} (hp : p < np) (hv : v = -1 ∨ ∃ a, a < na ∧ v = nI a) : SRv s af pf (va_up us p v) kn tm lw ls td L n (va_up f (42 + 4 * p + 3) v) na np nl ns nt Tl := by
  obtain ⟨x1, x2, x3, x4, x5, x6, x7, x8, x9, x10, x11⟩ := x
  have hn := x1.1
  refine ⟨x1.off ⟨up_off (by omega), up_off (by omega), up_off (by omega), up_off (by omega), up_off (by omega)⟩, x2.off (up_off (by omega)), x3.off (up_off (by omega)), x4.off ⟨up_off (by omega), up_off (by omega), up_off (by omega)⟩, x5.off (fun i _ _ => up_off (by omega)), ?_, ?_, x8.off (fun i _ _ => up_off (by omega)), x9.off hn.2.2.2.1 (fun i _ _ => up_off (by omega)), x10.off (by omega) (fun i _ _ => up_off (by omega)), x11.off hn.2.2.1 (fun i _ h2 => up_off (by omega))⟩
  · intro q hq j hj
    rw [up_off (by omega)]; exact x6 q hq j hj
  · refine ⟨fun q hq => ?_, fun q hq hq2 => ?_⟩
    · by_cases e : q = p
      · subst e; rw [up_self, up_self]; exact ⟨rfl, hv⟩
      · rw [up_off e, up_off (by omega)]; exact x7.1 q hq
    · rw [up_off (by omega)]; exact x7.2 q hq hq2
/-- how well it is known -/
theorem SRv.knows (x : SRv s af pf us kn tm lw ls td L n f na np nl ns nt Tl) {i v : Nat} (hi : i < 64) (hv : v ≤ 9) : SRv s af pf us (va_up kn i (nI v)) tm lw ls td L n (va_up f (74 + i) (nI v)) na np nl ns nt Tl := by
  obtain ⟨x1, x2, x3, x4, x5, x6, x7, x8, x9, x10, x11⟩ := x
  have hn := x1.1
  refine ⟨x1.off ⟨up_off (by omega), up_off (by omega), up_off (by omega), up_off (by omega), up_off (by omega)⟩, x2.off (up_off (by omega)), x3.off (up_off (by omega)), x4.off ⟨up_off (by omega), up_off (by omega), up_off (by omega)⟩, x5.off (fun i _ _ => up_off (by omega)), x6.off (fun i _ _ => up_off (by omega)), x7.off hn.2.1 (fun i _ _ => up_off (by omega)), ?_, x9.off hn.2.2.2.1 (fun i _ _ => up_off (by omega)), x10.off (by omega) (fun i _ _ => up_off (by omega)), x11.off hn.2.2.1 (fun i _ h2 => up_off (by omega))⟩
  intro j hj
  by_cases e : j = i
  · subst e; rw [up_self, up_self]; exact ⟨rfl, v, hv, rfl⟩
  · rw [up_off e, up_off (by omega)]; exact x8 j hj
/-- who is ill -/
theorem SRv.ill (x : SRv s af pf us kn tm lw ls td L n f na np nl ns nt Tl) {b : Nat} (hb : b < 2 ^ na) : SRv (va_up s 6 (nI b)) af pf us kn tm lw ls td L n (va_up f 4 (nI b)) na np nl ns nt Tl := by
  obtain ⟨x1, x2, x3, x4, x5, x6, x7, x8, x9, x10, x11⟩ := x
  have hn := x1.1
  refine ⟨?_, ?_, ⟨by rw [up_self, up_self], b, hb, up_self⟩, x4.off ⟨up_off (by omega), up_off (by omega), up_off (by omega)⟩, x5.off (fun i _ _ => up_off (by omega)), x6.off (fun i _ _ => up_off (by omega)), x7.off hn.2.1 (fun i _ _ => up_off (by omega)), x8.off (fun i _ _ => up_off (by omega)), x9.off hn.2.2.2.1 (fun i _ _ => up_off (by omega)), x10.off (by omega) (fun i _ _ => up_off (by omega)), x11.off hn.2.2.1 (fun i _ h2 => up_off (by omega))⟩
  · exact (CntR.off (s := va_up s 6 (nI b)) (f := f) x1 ⟨up_off (by omega), up_off (by omega), up_off (by omega), up_off (by omega), up_off (by omega)⟩)
  · exact (FrcR.off (s := va_up s 6 (nI b)) (f := f) x2 (up_off (by omega)))
end UPD
