/-! what both have read is the same law -/
section LSEM
variable {K V : Nat → Nat} {N : Nat}
theorem CtU.mono {k j : Nat} (c : CtU K V k) (h : j ≤ k) : CtU K V j := fun i hi => c i (by omega)
theorem cl_ord (T : TkP K V N) {k : Nat} (cu : CtU K V k) : ∀ j, j ≤ k → rlA K V j ≤ rlB K V j ∧ rlB K V j ≤ rlE K V j := by
  intro j hj
  have po := pSt_ok T j (cu.mono hj)
  obtain ⟨cg, -⟩ := c1_gw T po.1
  refine ⟨cg.2.2.2.1, ?_⟩
  obtain ⟨g, g'⟩ := c1_gw T po.1
  show (pC1 K V (pSt K V j)).2.2.2.1 ≤ (pC3 K V (pC1 K V (pSt K V j))).2.2.2.1
  unfold pC3
  by_cases ok : (pC1 K V (pSt K V j)).1 = true
  · rw [if_pos ok]
    obtain ⟨a1, a2⟩ := g' ok
    by_cases q : K (pC1 K V (pSt K V j)).2.1 = 4
    · rw [if_pos q]
      have hlt := T.lt g.2.1 (show K (pC1 K V (pSt K V j)).2.1 ≠ 20 by omega)
      have := po.2.1
      exact (testX T (s := tkS (pC1 K V (pSt K V j)).2) hlt (by show 1 ≤ _ + 1; omega) (by show (pC1 K V (pSt K V j)).2.2.2.1 ≤ (pC1 K V (pSt K V j)).2.1 + 1; omega) (fun _ => (0, 0)) (Nat.zero_le _)).1.2.2.2.1
    · rw [if_neg q]; exact Nat.le_refl _
  · rw [if_neg ok]; exact Nat.le_refl _
theorem cl_agree (T : TkP K V N) {k : Nat} (cu : CtU K V k) : ∀ (m i : Nat), i + m = k → rlE K V i ≤ rlE K V k ∧ ∀ p, p < rlE K V i → (pCl K V (pSt K V k)).2.2.1 p = (pCl K V (pSt K V i)).2.2.1 p := by
  intro m
  induction m with
  | zero =>
    intro i hi
    have : i = k := by omega
    subst this
    exact ⟨Nat.le_refl _, fun _ _ => rfl⟩
  | succ m ih =>
    intro i hi
    obtain ⟨a, b⟩ := ih (i + 1) (by omega)
    have po := pSt_ok T (i + 1) (cu.mono (by omega))
    obtain ⟨g1, g2, g3, g4, g5, g6⟩ := cl_gw T po.1 po.2.1
    have g4 : rlE K V i ≤ rlE K V (i + 1) := g4
    refine ⟨by omega, fun p hp => ?_⟩
    rw [b p (by omega)]
    exact g5 p hp
theorem cl_hd {s : PS} (h : (pCl K V s).1 = true) : K s.1 < 4 := by
  rcases Nat.lt_or_ge (K s.1) 4 with z | z
  · exact z
  · exfalso
    have e : pC1 K V s = (false, s) := by unfold pC1; rw [if_neg (by omega)]
    have : (pC3 K V (pC1 K V s)).1 = true := h
    unfold pC3 at this
    rw [e, if_neg (by simp)] at this
    cases this
theorem lawSem (T : TkP K V N) {k : Nat} (oo : OkO K V k) {hdC pl st g r : Nat → Int32} {c : Cd} {nc : Nat} {a' b' e' : Nat → Nat} {vs vt : Nat → VF}
    (h1 : ∀ i, i < k + 1 → hdC i = nI (K (pSt K V i).1) ∧ pl (2 * i) = nI (rlA K V i) ∧ pl (2 * i + 1) = nI (rlB K V i)) (h2 : pl (2 * (k + 1)) = nI (rlE K V k))
    (h3 : ∀ p, p < rlE K V k → st p = nI (((pCl K V (pSt K V k)).2.2.1 p).1 + 256 * ((pCl K V (pSt K V k)).2.2.1 p).2)) (hnc : nc ≤ 400)
    (g1 : g 1 = nI (k + 1)) (gr : ∀ j, j < 8 * (k + 1) → g (2 + j) = r j) (gc : ∀ p, p < nc → g (98 + 2 * p) = nI (c p).1 ∧ g (98 + 2 * p + 1) = nI (c p).2)
    (ca : ∀ i, i < k + 1 → (r (8 * i) = nI (K (pSt K V i).1) ∧ r (8 * i + 3) = nI (a' i) ∧ r (8 * i + 4) = nI (b' i) ∧ r (8 * i + 5) = nI (b' i) ∧ r (8 * i + 6) = nI (e' i)) ∧ e' i ≤ nc ∧ ClG K V (pSt K V i) c (a' i) (b' i) (e' i) (vs i) (vt i)) (wr : WfR c 0 nc) :
    ∃ Tl : LawT, LawSem hdC pl st (k + 1) (rlE K V k) g Tl := by
  obtain ⟨cu, hk, okk, k20⟩ := oo
  have okj : ∀ i, i < k + 1 → (pCl K V (pSt K V i)).1 = true := fun i hi => by
    rcases Nat.lt_or_ge i k with z | z
    · exact (cu i z).1
    · rw [show i = k by omega]; exact okk
  have po := pSt_ok T k cu
  have gw := cl_gw T po.1 po.2.1
  have hE : rlE K V k ≤ 400 := by
    obtain ⟨q1, q2, q3, q4, q5, q6⟩ := gw
    have := po.2.1
    have := T.1
    show (pCl K V (pSt K V k)).2.2.2.1 ≤ 400
    omega
  have ag : ∀ i, i < k + 1 → rlE K V i ≤ rlE K V k ∧ ∀ p, p < rlE K V i → (pCl K V (pSt K V k)).2.2.1 p = (pCl K V (pSt K V i)).2.2.1 p := fun i hi => cl_agree T cu (k - i) i (by omega)
  have ord : ∀ i, i < k + 1 → rlA K V i ≤ rlB K V i ∧ rlB K V i ≤ rlE K V i := fun i hi => cl_ord T cu i (by omega)
  have wc : ∀ j, j < k + 1 → WfC (pCl K V (pSt K V j)).2.2.1 0 (rlE K V j) := by
    intro j
    induction j with
    | zero => intro h0; exact (ca 0 h0).2.2.2.2.1
    | succ j ih =>
      intro hj p _ hp
      rcases Nat.lt_or_ge p (rlE K V j) with z | z
      · have e1 := (ag (j + 1) hj).2 p hp
        have e2 := (ag j (by omega)).2 p z
        rw [← e1, e2]; exact ih (by omega) p (Nat.zero_le _) z
      · exact (ca (j + 1) hj).2.2.2.2.1 p z hp
  have ec : ∀ p, p < rlE K V k → cdC st p = (pCl K V (pSt K V k)).2.2.1 p := fun p hp => by
    have w := wc k (by omega) p (Nat.zero_le _) hp
    unfold cdC
    rw [h3 p hp, kw_and (by omega) w.2.1, kw_shr' (by omega) w.2.1, nI_clamp (by omega), nI_clamp (by omega)]
  have er : ∀ p, p < nc → cdM g p = cdR c p := fun p hp => by
    have w := wr p (Nat.zero_le _) hp
    obtain ⟨u1, u2⟩ := gc p hp
    unfold cdM cdR
    rw [u1, u2, nI_clamp (by omega), nI_clamp (by omega)]
  refine ⟨_, fun i => K (pSt K V i).1, fun i => decide (K (pSt K V i).1 < 2), fun i => decide (K (pC1 K V (pSt K V i)).2.1 = 4), vs, vt, rlA K V, rlB K V, a', b', b', e', nc, rfl, by omega, hE, hnc, g1, h2, Nat.le_refl _, fun i hi => ?_, fun i hi => ?_, fun i hi => ?_, fun p hp => ?_, fun p hp => ?_⟩
  · obtain ⟨u1, u2, u3⟩ := h1 i hi
    obtain ⟨⟨v0, v3, v4, v5, v6⟩, ve, G⟩ := ca i hi
    obtain ⟨f1, f2, f3, f4, f5, f6, f7, f8, f9, f10⟩ := G
    obtain ⟨o1, o2⟩ := ord i hi
    refine ⟨cl_hd (okj i hi), rfl, u1, u2, u3, o1, o2, ?_, ?_, ?_, ?_, ?_, ?_, f1, by omega, f2, ve, f5, f6⟩
    · show rlE K V i ≤ rlE K V k
      exact (ag i hi).1
    · rw [gr (8 * i) (by omega)]; exact v0
    · rw [Nat.add_assoc, gr (8 * i + 3) (by omega)]; exact v3
    · rw [Nat.add_assoc, gr (8 * i + 4) (by omega)]; exact v4
    · rw [Nat.add_assoc, gr (8 * i + 5) (by omega)]; exact v5
    · rw [Nat.add_assoc, gr (8 * i + 6) (by omega)]; exact v6
  · obtain ⟨-, -, G⟩ := ca i hi
    obtain ⟨f1, f2, f3, f4, f5, f6, f7, f8, f9, f10⟩ := G
    obtain ⟨a1, a2⟩ := ag i hi
    obtain ⟨o1, o2⟩ := ord i hi
    refine ⟨fun z => ?_, fun z => ?_, fun z => ?_, fun z => ?_⟩
    · obtain ⟨y1, y2, y3, y4⟩ := f7 (of_decide_eq_true z)
      refine ⟨y1, y3.cong fun p _ hp => ?_⟩
      have hp : p < rlB K V i := hp
      rw [ec p (by omega), a2 p (by omega)]
    · exact (f8 (of_decide_eq_false z)).1
    · obtain ⟨y1, y2, y3, y4⟩ := f9 (of_decide_eq_true z)
      refine ⟨y1, y3.cong fun p _ hp => ?_⟩
      have hp : p < rlE K V i := hp
      rw [ec p (by omega), a2 p (by omega)]
    · exact (f10 (of_decide_eq_false z)).1
  · obtain ⟨-, ve, G⟩ := ca i hi
    obtain ⟨f1, f2, f3, f4, f5, f6, f7, f8, f9, f10⟩ := G
    refine ⟨fun z => ?_, fun z => ?_, fun z => ?_, fun z => ?_⟩
    · obtain ⟨y1, y2, y3, y4⟩ := f7 (of_decide_eq_true z)
      exact ⟨y2, y4.cong fun p _ hp => er p (by omega)⟩
    · exact (f8 (of_decide_eq_false z)).2
    · obtain ⟨y1, y2, y3, y4⟩ := f9 (of_decide_eq_true z)
      exact ⟨y2, y4.cong fun p _ hp => er p (by omega)⟩
    · exact (f10 (of_decide_eq_false z)).2
  · have w := wc k (by omega) p (Nat.zero_le _) hp
    exact ⟨_, _, h3 p hp, w.1, w.2.1, w.2.2⟩
  · have w := wr p (Nat.zero_le _) hp
    obtain ⟨u1, u2⟩ := gc p hp
    exact ⟨_, _, u1, u2, w.1, w.2.1, w.2.2⟩
end LSEM
