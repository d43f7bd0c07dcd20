/-! FROM ONE CALL TO THE NEXT: what the class keeps beside rests on the row f, but for how many are told (place 9) -/
theorem n9_KN {f f' : Nat → Int32} (hf : ∀ i, i ≠ 9 → f' i = f i) : KN f' = KN f := funext fun i => hf _ (by omega)
theorem n9_fcs {f f' : Nat → Int32} (hf : ∀ i, i ≠ 9 → f' i = f i) (kn : Nat → Int32) (wk : Int32) : fcs f' kn wk = fcs f kn wk := by
  funext a p i
  unfold fcs
  split
  all_goals first
    | rfl
    | rw [hf _ (by omega)]
theorem n9_Tf {f f' : Nat → Int32} (hf : ∀ i, i ≠ 9 → f' i = f i) (Tl : Nat → LawT) : TfR f' Tl = TfR f Tl := by unfold TfR; rw [hf 3 (by decide)]
theorem n9_can {f f' : Nat → Int32} (hf : ∀ i, i ≠ 9 → f' i = f i) (Tl : Nat → LawT) (kn : Nat → Int32) (wk : Int32) : canB f' Tl kn wk = canB f Tl kn wk := by
  funext a p
  unfold canB
  refine decide_eq_decide.mpr ?_
  unfold canF
  rw [n9_fcs hf, n9_Tf hf, hf 5 (by decide)]
theorem n9_costI {f f' : Nat → Int32} (hf : ∀ i, i ≠ 9 → f' i = f i) (Tl : Nat → LawT) (kn : Nat → Int32) (wk : Int32) (a p : Nat) : costI f' Tl kn wk a p = costI f Tl kn wk a p := by
  unfold costI
  rw [n9_fcs hf, n9_Tf hf, hf _ (by omega)]
theorem n9_co {f f' : Nat → Int32} (hf : ∀ i, i ≠ 9 → f' i = f i) (Tl : Nat → LawT) (kn : Nat → Int32) (wk : Int32) : coN f' Tl kn wk = coN f Tl kn wk := by
  funext a p
  unfold coN
  rw [n9_costI hf]
theorem n9_cb {f f' : Nat → Int32} (hf : ∀ i, i ≠ 9 → f' i = f i) (Tl : Nat → LawT) (kn : Nat → Int32) (wk : Int32) (np : Nat) : cbN f' Tl kn wk np = cbN f Tl kn wk np := by
  funext a
  unfold cbN
  rw [n9_can hf]
theorem n9_be {f f' : Nat → Int32} (hf : ∀ i, i ≠ 9 → f' i = f i) (np : Nat) : beN f' np = beN f np := by
  funext p
  unfold beN
  congr 1
  funext q
  unfold besB
  refine decide_eq_decide.mpr ?_
  rw [hf 6 (by decide), hf (42 + 4 * q + 2) (by omega), hf (42 + 4 * p + 2) (by omega)]
theorem n9_pr {f f' : Nat → Int32} (hf : ∀ i, i ≠ 9 → f' i = f i) (np ill : Nat) (can : Nat → Nat → Bool) (fx : Nat → Int32) : prM f' np ill can fx = prM f np ill can fx := by
  funext a p q
  have e : dblB f' p q = dblB f p q := by
    unfold dblB
    refine decide_eq_decide.mpr ?_
    rw [hf 6 (by decide), hf (42 + 4 * q + 2) (by omega), hf (42 + 4 * p + 2) (by omega)]
  unfold prM
  rw [e]
theorem n9_open {f f' : Nat → Int32} (hf : ∀ i, i ≠ 9 → f' i = f i) (np na : Nat) (can : Nat → Nat → Bool) (I : Nat) : OpenP f' np na can I = OpenP f np na can I := by
  unfold OpenP mu0
  rw [n9_pr hf]
theorem n9_ls {f f' : Nat → Int32} (hf : ∀ i, i ≠ 9 → f' i = f i) (q : Nat) : lsAt f' q = lsAt f q := by
  unfold lsAt
  rw [hf (138 + 4 * q) (by omega), hf (138 + 4 * q + 1) (by omega)]
theorem n9_kn {f f' : Nat → Int32} (hf : ∀ i, i ≠ 9 → f' i = f i) (L n : Nat) : knR f' L n = knR f L n := by
  induction n with
  | zero => exact n9_KN hf
  | succ q ih =>
    unfold knR
    rw [ih, n9_ls hf, hf (138 + 4 * q + 2) (by omega)]
theorem n9_hr {f f' : Nat → Int32} (hf : ∀ i, i ≠ 9 → f' i = f i) (L n : Nat) : hrN f' L n = hrN f L n := by
  unfold hrN
  congr 1
  funext q
  rw [hf (138 + 4 * q + 3) (by omega)]
theorem n9_cnA {f f' : Nat → Int32} (hf : ∀ i, i ≠ 9 → f' i = f i) (Tl : Nat → LawT) : cnA f' Tl = cnA f Tl := by
  unfold cnA
  rw [n9_can hf, n9_KN hf, hf 7 (by decide)]
theorem n9_coA {f f' : Nat → Int32} (hf : ∀ i, i ≠ 9 → f' i = f i) (Tl : Nat → LawT) : coA f' Tl = coA f Tl := by
  unfold coA
  rw [n9_co hf, n9_KN hf, hf 7 (by decide)]
theorem n9_cbA {f f' : Nat → Int32} (hf : ∀ i, i ≠ 9 → f' i = f i) (Tl : Nat → LawT) (np : Nat) : cbA f' Tl np = cbA f Tl np := by
  unfold cbA
  rw [n9_cb hf, n9_KN hf, hf 7 (by decide)]
theorem n9_ill {f f' : Nat → Int32} (hf : ∀ i, i ≠ 9 → f' i = f i) : illN f' = illN f := by
  unfold illN
  rw [hf 4 (by decide)]
theorem n9_CG {f f' : Nat → Int32} (hf : ∀ i, i ≠ 9 → f' i = f i) (np ill : Nat) (can : Nat → Nat → Bool) (fx : Nat → Int32) (wt : Nat → Nat → Nat) (a S : Nat) : CG f' np ill can fx wt a S = CG f np ill can fx wt a S := by
  funext k
  unfold CG
  rw [n9_pr hf]
section NXC
variable {h h2 : Hp} {na np nl ns nt fr : Nat} {Tl : Nat → LawT}
theorem CFo.sm {cb be : Nat → Nat} {co : Nat → Nat → Nat} (S : SameC h h2) (N : CFo h 48 na np cb be co) : CFo h2 48 na np cb be co := by
  have e : ∀ a, 48 ≤ a → a < 74 → hI h2 a = hI h a := fun a h1 h2 => (S.2.2.1 a h1 h2).1
  obtain ⟨n1, n2, n3, n4, n5, n6⟩ := N
  exact ⟨n1, n2, by rw [e 48 (by omega) (by omega)]; exact n3, by rw [e (48 + 1) (by omega) (by omega)]; exact n4, by rw [e (48 + 3) (by omega) (by omega)]; exact n5, by rw [e (48 + 2) (by omega) (by omega)]; exact n6⟩
theorem CacF.n9 (S : SameC h h2) (C : CacF h (hI h 81) Tl na np ns fr) : CacF h2 (hI h2 81) Tl na np ns fr := by
  have e : ∀ a, 48 ≤ a → a < 74 → hI h2 a = hI h a := fun a h1 h2 => (S.2.2.1 a h1 h2).1
  have hf := S.2.2.2
  obtain ⟨c0, c1, c2, c3, c4, c5⟩ := C
  refine ⟨fun q => ?_, fun q => ?_, fun q => ?_, fun q => ?_, fun q => ?_, fun k hk q => ?_⟩
  · have := c0 q
    unfold CastOk at this ⊢
    rw [n9_cbA hf, n9_be hf, n9_coA hf]
    exact this.sm S
  · have := c1 q
    unfold FirstOk at this ⊢
    rw [n9_coA hf, n9_cnA hf, n9_ill hf, S.2.1, n9_CG hf]
    exact this
  · have := c2 q
    unfold TallyOk at this ⊢
    rw [n9_coA hf, n9_cnA hf, n9_ill hf, e 60 (by omega) (by omega), n9_CG hf, n9_CG hf]
    exact this
  · have := c3 q
    unfold ClosedOk at this ⊢
    rw [n9_cnA hf, e 68 (by omega) (by omega), e 64 (by omega) (by omega)]
    simp only [n9_open hf]
    exact this
  · have := c4 q
    unfold PickedOk at this ⊢
    rw [n9_coA hf, n9_cnA hf, n9_ill hf, e 60 (by omega) (by omega), e 63 (by omega) (by omega)]
    simp only [n9_CG hf, CG, mu0, n9_pr hf] at this ⊢
    exact this
  · have := c5 k hk q
    unfold PlansOk EnP at this ⊢
    rw [e 70 (by omega) (by omega), e 71 (by omega) (by omega), e 69 (by omega) (by omega)]
    simp only [n9_open hf, n9_can hf, n9_kn hf, n9_hr hf, hf 7 (by decide)]
    exact this
/-- what holds between two calls -/
def Inv1 (h : Hp) : Prop := ∃ (na np nl ns nt : Nat) (Tl : Nat → LawT), Inv0 h na np nl ns nt Tl ∧ CacV h Tl na np ns
theorem CacV.zero (e : hI h 9 10 = 0) : CacV h Tl na np ns := by
  refine ⟨0, by decide, e, ?_⟩
  refine ⟨fun q => ?_, fun q => ?_, fun q => ?_, fun q => ?_, fun q => ?_, fun k hk q => ?_⟩ <;> simp at q
theorem Nx.inv1 (C : CacV h Tl na np ns) (x : Nx h h2 na np nl ns nt Tl) : Inv1 h2 := by
  rcases x with ⟨na', np', nl', ns', nt', Tl', I, e⟩ | ⟨nt', I, S⟩
  · exact ⟨na', np', nl', ns', nt', Tl', I, CacV.zero e⟩
  · obtain ⟨fr, f1, f2, F⟩ := C
    exact ⟨na, np, nl, ns, nt', Tl, I, fr, f1, by rw [S.1]; exact f2, F.n9 S⟩
end NXC
