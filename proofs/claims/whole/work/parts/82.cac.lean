/-! WHAT THE CLASS KEEPS BESIDE THE STATE, told by the reference's row f -/
def KN (f : Nat → Int32) : Nat → Int32 := fun i => f (74 + i)
abbrev cnA (f : Nat → Int32) (Tl : Nat → LawT) : Nat → Nat → Bool := canB f Tl (KN f) (f 7)
abbrev coA (f : Nat → Int32) (Tl : Nat → LawT) : Nat → Nat → Nat := coN f Tl (KN f) (f 7)
abbrev cbA (f : Nat → Int32) (Tl : Nat → LawT) (np : Nat) : Nat → Nat := cbN f Tl (KN f) (f 7) np
def illN (f : Nat → Int32) : Nat := (f 4).toNatClampNeg
def CastOk (h : Hp) (f : Nat → Int32) (Tl : Nat → LawT) (na np : Nat) : Prop := CFo h 48 na np (cbA f Tl np) (beN f np) (coA f Tl)
def FirstOk (f : Nat → Int32) (Tl : Nat → LawT) (na np : Nat) (x : Int64) : Prop := RpX 0 x (CG f np (illN f) (cnA f Tl) fxm (wtX 0 (coA f Tl)) na (2 ^ np - 1))
def TallyOk (f : Nat → Int32) (Tl : Nat → LawT) (na np : Nat) (x y : Int32) : Prop := ∃ n1 n2, x = nI n1 ∧ y = nI n2 ∧ LstC (CG f np (illN f) (cnA f Tl) fxm (coA f Tl) na (2 ^ np - 1)) n1 ∧ LstC (CG f np (illN f) (cnA f Tl) fxm z0 na (2 ^ np - 1)) n2
def OpenP (f : Nat → Int32) (np na : Nat) (can : Nat → Nat → Bool) (I : Nat) : Prop := ∃ g, Exg (mu0 f np I can) na (2 ^ np - 1) g
def ClosedOk (f : Nat → Int32) (Tl : Nat → LawT) (na np : Nat) (cl : Nat → Int32) (sets : Int32) : Prop := sets = nI (2 ^ na) ∧ ∀ I, I < 2 ^ na → (cl I = 0 ∧ OpenP f np na (cnA f Tl) I) ∨ (cl I = 1 ∧ ¬ OpenP f np na (cnA f Tl) I)
def PickedOk (f : Nat → Int32) (Tl : Nat → LawT) (na np : Nat) (pi : Int32) (pk : Nat → Int32) : Prop := ∃ i, i < 2 ^ 31 ∧ pi = nI i ∧ (((∀ p, p < np → pk p = -1) ∧ ((∀ k, CG f np (illN f) (cnA f Tl) fxm (coA f Tl) na (2 ^ np - 1) k = 0) ∨ ∃ its, 0 < CG f np (illN f) (cnA f Tl) fxm (coA f Tl) na (2 ^ np - 1) its ∧ (∀ k, k < its → CG f np (illN f) (cnA f Tl) fxm (coA f Tl) na (2 ^ np - 1) k = 0) ∧ CG f np (illN f) (cnA f Tl) fxm (coA f Tl) na (2 ^ np - 1) its ≤ i)) ∨ ∃ its g, 0 < CG f np (illN f) (cnA f Tl) fxm (coA f Tl) na (2 ^ np - 1) its ∧ (∀ k, k < its → CG f np (illN f) (cnA f Tl) fxm (coA f Tl) na (2 ^ np - 1) k = 0) ∧ i < CG f np (illN f) (cnA f Tl) fxm (coA f Tl) na (2 ^ np - 1) its ∧ PickR (NF (mu0 f np (illN f) (cnA f Tl)) (coA f Tl) na (2 ^ np - 1) its) np i g ∧ ∀ p, p < np → pk p = nI (g p))
/-- what is known when the lessons of the set L are learnt, of the first n -/
def lsAt (f : Nat → Int32) (q : Nat) : Nat := 8 * (f (138 + 4 * q)).toNatClampNeg + (f (138 + 4 * q + 1)).toNatClampNeg
def knR (f : Nat → Int32) (L : Nat) : Nat → Nat → Int32
  | 0 => KN f
  | q + 1 => if L.testBit q = true ∧ knR f L q (lsAt f q) < f (138 + 4 * q + 2) then va_up (knR f L q) (lsAt f q) (f (138 + 4 * q + 2)) else knR f L q
def hrN (f : Nat → Int32) (L n : Nat) : Nat := sumN n (fun q => if L.testBit q = true then (f (138 + 4 * q + 3)).toNatClampNeg else 0)
def EnP (f : Nat → Int32) (Tl : Nat → LawT) (na np ns k L : Nat) : Prop := ∀ I, I < 2 ^ na → pcN I ≤ k → OpenP f np na (canB f Tl (knR f L ns) (f 7)) I
def PlansOk (f : Nat → Int32) (Tl : Nat → LawT) (na np ns k : Nat) (en hr : Nat → Int32) (sets : Int32) : Prop := sets = nI (2 ^ ns) ∧ ∀ L, L < 2 ^ ns → ((en (128 * k + L) = 1 ∧ EnP f Tl na np ns k L) ∨ (en (128 * k + L) = 0 ∧ ¬ EnP f Tl na np ns k L)) ∧ hr L = nI (hrN f L ns)
def CacF (h : Hp) (f : Nat → Int32) (Tl : Nat → LawT) (na np ns fr : Nat) : Prop := (fr.testBit 0 = true → CastOk h f Tl na np) ∧ (fr.testBit 1 = true → FirstOk f Tl na np (hJ h 9 18)) ∧ (fr.testBit 2 = true → TallyOk f Tl na np (hI h 60 6) (hI h 60 7)) ∧ (fr.testBit 3 = true → ClosedOk f Tl na np (hI h 68) (hI h 64 6)) ∧ (fr.testBit 4 = true → PickedOk f Tl na np (hI h 60 9) (hI h 63)) ∧ ∀ k, k < 4 → fr.testBit (5 + k) = true → PlansOk f Tl na np ns k (hI h 70) (hI h 71) (hI h 69 4)
def CacV (h : Hp) (Tl : Nat → LawT) (na np ns : Nat) : Prop := ∃ fr, fr < 512 ∧ hI h 9 10 = nI fr ∧ CacF h (hI h 81) Tl na np ns fr
theorem fcs_cg {f kn kn' : Nat → Int32} {wk : Int32} {a p : Nat} (h : kn (8 * a + p) = kn' (8 * a + p)) : fcs f kn wk a p = fcs f kn' wk a p := by
  rw [← fcs_7 f kn, ← fcs_7 f kn', h]
theorem canB_cg {f kn kn' : Nat → Int32} {Tl : Nat → LawT} {wk : Int32} {a p : Nat} (h : kn (8 * a + p) = kn' (8 * a + p)) : canB f Tl kn wk a p = canB f Tl kn' wk a p := by
  unfold canB; rw [fcs_cg h]
theorem costI_cg {f kn kn' : Nat → Int32} {Tl : Nat → LawT} {wk : Int32} {a p : Nat} (h : kn (8 * a + p) = kn' (8 * a + p)) : costI f Tl kn wk a p = costI f Tl kn' wk a p := by
  unfold costI; rw [fcs_cg h]
theorem nL_and (a n : Nat) : nI a &&& no_index (OfNat.ofNat n : Int32) = nI (a &&& OfNat.ofNat n) := nx_and a n
theorem nL_or (a n : Nat) : nI a ||| no_index (OfNat.ofNat n : Int32) = nI (a ||| OfNat.ofNat n) := nx_or a n
section RN
variable {l : Launch} {E : Ev} {d : Nat} {Q : Option Value → Hp → Prop} {h : Hp} {na np nl ns nt : Nat} {Tl : Nat → LawT}
theorem SR0.kn (S : SR0 h na np nl ns nt Tl) : (∀ i, i < 64 → hI h 14 i = KN (hI h 81) i) ∧ KnOk (hI h 14) ∧ KnOk (KN (hI h 81)) := by
  obtain ⟨-, -, -, -, -, -, -, hK, -⟩ := S
  refine ⟨fun i hi => (hK i hi).1, fun i hi => (hK i hi).2, fun i hi => ?_⟩
  obtain ⟨e, v, hv, e2⟩ := hK i hi
  exact ⟨v, hv, by rw [← e2, e]; rfl⟩
theorem SR0.wk (S : SR0 h na np nl ns nt Tl) : hI h 15 2 = hI h 81 7 ∧ WkOk (hI h 81 7) := by
  obtain ⟨-, -, -, ⟨x, y, z, -, -, e1, e2, e3⟩, -⟩ := S
  exact ⟨by rw [e1, e2], z, by omega, e2⟩
theorem SR0.ill (S : SR0 h na np nl ns nt Tl) : hI h 10 6 = nI (illN (hI h 81)) ∧ hI h 81 4 = nI (illN (hI h 81)) ∧ illN (hI h 81) < 2 ^ na ∧ illN (hI h 81) < 256 := by
  obtain ⟨⟨⟨n1, -⟩, -⟩, -, ⟨e1, b, hb, e2⟩, -⟩ := S
  have h8 : 2 ^ na ≤ 256 := p2_le n1
  have e : illN (hI h 81) = b := by unfold illN; rw [e2, nI_clamp (by omega)]
  rw [e]
  exact ⟨by rw [e1, e2], e2, hb, by omega⟩
abbrev SCs : Nat → Nat → Prop := fun x i => (48 ≤ x ∧ x ≤ 53)
/-- the casting made anew -/
theorem c_cast (w : WF h) (S : SR0 h na np nl ns nt Tl) {K : Kt} {ls : Lv} (hQ : ∀ h2, Kp SCs h h2 → CastOk h2 (hI h 81) Tl na np → Q none h2) : GoM l E YX0_fillAble (d + 5) 0 0 [.ref 48, .ref 10, .ref 14, .int (hI h 81 7)] h (fun r h1 => r = none ∧ GoM l E YX0_fillCosts (d + 5) 0 0 [.ref 48, .ref 10, .ref 14, .int (hI h 81 7)] h1 Q) := by
  obtain ⟨k1, k2, k3⟩ := S.kn
  obtain ⟨w1, w2⟩ := S.wk
  have hn := S.1.1
  refine c_fillAble w (Or.inl rfl) S w.s14 (by omega) k2 w2 ?_
  intro h1 K1 e0 e1 eb ec
  have SK : SKs (SFa 48) := fun a i q => by rcases q with q | q | q | q | q <;> omega
  have S1 := S.kp K1 SK
  have e81 : hI h1 81 = hI h 81 := K1.I (by simp)
  have e14 : hI h1 14 = hI h 14 := K1.I (by simp)
  refine ⟨rfl, c_fillCosts (K1.wf w) (Or.inl rfl) S1 e0 e1 ((K1.wf w).s14) (by omega) (by rw [e14]; exact k2) w2 ?_⟩
  intro h2 K2 ed
  rw [e81, e14] at ed
  refine hQ h2 ((K1.mono fun x i q => by show 48 ≤ x ∧ x ≤ 53; rcases q with q | q | q | q | q <;> omega).trans (K2.mono fun x i q => by show 48 ≤ x ∧ x ≤ 53; rcases q with q | q | q <;> omega)) ?_
  have o : ∀ x i, x ≠ 50 → x ≠ 52 → x ≠ 53 → hI h2 x i = hI h1 x i := fun x i q1 q2 q3 => K2.i (fun q => by rcases q with q | q | q <;> omega)
  refine ⟨Or.inl rfl, ⟨hn.1, hn.2.1⟩, ⟨?_, ?_⟩, fun a ha => ⟨?_, cb_lt _ _ _ _ hn.2.1 a⟩, fun p hp => ⟨?_, be_lt _ hn.2.1 p⟩, fun a ha p hp => ?_⟩
  · rw [o _ _ (by omega) (by omega) (by omega)]; exact e0
  · rw [o _ _ (by omega) (by omega) (by omega)]; exact e1
  · rw [o _ _ (by omega) (by omega) (by omega), ec a ha]
    congr 1
    exact bitsB_cong fun p hp => canB_cg (k1 _ (by omega))
  · rw [o _ _ (by omega) (by omega) (by omega)]; exact eb p hp
  · rw [ed a ha p hp, costI_cg (kn' := KN (hI h 81)) (k1 _ (by omega))]
    exact cost_n _ _ _ _ _ _
end RN
