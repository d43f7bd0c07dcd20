/-! clauses, as mathematics -/
def pC1 (K V : Nat → Nat) (s : PS) : Bool × PS := if K s.1 < 4 then (if K s.1 < 2 then pSm K V 8 (tkS s) else (true, tkS s)) else (false, s)
def pC3 (K V : Nat → Nat) (r : Bool × PS) : Bool × PS := if r.1 = true then (if K r.2.1 = 4 then pTs K V 8 (tkS r.2) else (true, r.2)) else (false, r.2)
def pCl (K V : Nat → Nat) (s : PS) : Bool × PS := pC3 K V (pC1 K V s)
/-- where the clauses begin -/
def pSt (K V : Nat → Nat) : Nat → PS
  | 0 => (0, fun _ => (0, 0), 0, 0)
  | k + 1 => tkS (pCl K V (pSt K V k)).2
section CLA
variable {K V : Nat → Nat} {N : Nat}
theorem sumX (T : TkP K V N) {s : PS} (hs : s.1 ≤ N) (c : Cd) (nc : Nat) : Gw N s (pSm K V 8 s).2 ∧
    ((pSm K V 8 s).1 = false → ∃ (tn : Nat) (p' : Pl) (c' : Cd) (n' lv' op' : Nat), Rch K V false (1, s.1, [], c, nc, s.2.2.2, 0, false) (tn, (pSm K V 8 s).2.1, p', c', n', lv', op', true)) ∧
    ((pSm K V 8 s).1 = true → s.1 < (pSm K V 8 s).2.1 ∧ ∃ (p' : Pl) (c1 : Cd) (n1 : Nat) (c' : Cd) (n' : Nat) (v : VF), Rch K V false (1, s.1, [], c, nc, s.2.2.2, 0, false) (4, (pSm K V 8 s).2.1, p', c1, n1, (pSm K V 8 s).2.2.2.2, 0, false) ∧ stl 1 p' c1 n1 = ([], c', n') ∧ Ex s (pSm K V 8 s).2 c nc c' n' 24 v ∧ VOk v) := by
  have S := sum_sim (ts := false) T.1 T.2.1 (fun i _ => T.2.2.2.2 i) (Nat.le_refl 8) s [] c nc hs (fun x t e => by cases e)
  generalize pSm K V 8 s = r at S
  obtain ⟨S1, S2, S3⟩ := S
  refine ⟨S1, S2, fun ok => ?_⟩
  obtain ⟨y1, y2, σ, c1, n1, c', n', v, r1, r2, r3, ⟨x1, x2, x3, x4, x5, x6, x7, x8⟩, hv⟩ := S3 ok
  have a0 := arO_0 y2
  have e1 : mstep K V false (3, r.2.1, σ ++ [], c1, n1, r.2.2.2.2, 8 - 8, false) = (4, r.2.1, σ ++ [], c1, n1, r.2.2.2.2, 8 - 8, false) := by
    show mSum K false r.2.1 (σ ++ []) c1 n1 r.2.2.2.2 (8 - 8) = _
    unfold mSum
    have i0 : inn (σ ++ []) = 0 := by rw [inn_app fun x hx => by have := r2 x hx; omega]; rfl
    rw [if_neg (by rw [a0]; exact fun h => h rfl), if_neg (by omega), if_pos ⟨i0, rfl⟩]
  exact ⟨y1, σ ++ [], c1, n1, c', n', v, r1.next e1, by rw [stl_to (show 1 ≤ 5 by omega) r3]; rfl, ⟨x1, x2, x3, x4, x5.wide (by omega), x6.wide (by omega), x7, x8⟩, hv⟩
theorem testX (T : TkP K V N) {s : PS} (hs : s.1 ≤ N) (h1 : 1 ≤ s.1) (hsc : s.2.2.1 ≤ s.1) (c : Cd) {nc : Nat} (hnc : nc ≤ s.1) : Gw N s (pTs K V 8 s).2 ∧
    ((pTs K V 8 s).1 = false → ∃ (tn : Nat) (p' : Pl) (c' : Cd) (n' lv' op' : Nat), Rch K V true (0, s.1, [], c, nc, s.2.2.2, 0, false) (tn, (pTs K V 8 s).2.1, p', c', n', lv', op', true)) ∧
    ((pTs K V 8 s).1 = true → s.1 < (pTs K V 8 s).2.1 ∧ ∃ (p' : Pl) (c1 : Cd) (n1 : Nat) (c' : Cd) (n' : Nat) (v : VF), Rch K V true (0, s.1, [], c, nc, s.2.2.2, 0, false) (4, (pTs K V 8 s).2.1, p', c1, n1, (pTs K V 8 s).2.2.2.2, 0, false) ∧ stl 1 p' c1 n1 = ([], c', n') ∧ Ex s (pTs K V 8 s).2 c nc c' n' 24 v ∧ VZ v) := by
  have S := test_sim T.1 T.2.1 (fun i _ => T.2.2.2.2 i) (Nat.le_refl 8) s [] c nc hs h1 hsc hnc (fun x t e => by cases e) (by decide)
  generalize pTs K V 8 s = r at S
  obtain ⟨S1, S2, S3⟩ := S
  refine ⟨S1, S2, fun ok => ?_⟩
  obtain ⟨y1, y2, σ, c1, n1, c', n', v, r1, r2, r3, ⟨x1, x2, x3, x4, x5, x6, x7, x8⟩, hv⟩ := S3 ok
  have k5 : K r.2.1 ≠ 5 := y2 1 (by omega) (by omega)
  have k6 : K r.2.1 ≠ 6 := y2 2 (by omega) (by omega)
  have e1 : mstep K V true (2, r.2.1, σ ++ [], c1, n1, r.2.2.2.2, 8 - 8, false) = (4, r.2.1, σ ++ [], c1, n1, r.2.2.2.2, 8 - 8, false) := by
    show mTs K r.2.1 (σ ++ []) c1 n1 r.2.2.2.2 (8 - 8) = _
    unfold mTs
    have i0 : inn (σ ++ []) = 0 := by rw [inn_app fun x hx => by have := r2 x hx; omega]; rfl
    rw [if_neg k6, if_neg k5, if_pos i0]
  exact ⟨y1, σ ++ [], c1, n1, c', n', v, r1.next e1, r3, ⟨x1, x2, x3, x4, x5.wide (by omega), x6.wide (by omega), x7, x8⟩, hv⟩
/-- a clause's state: where the class may stand -/
def PsO (N : Nat) (s : PS) : Prop := s.1 ≤ N ∧ s.2.2.1 ≤ s.1 ∧ s.2.2.2 ≤ 50
theorem c1_gw (T : TkP K V N) {s : PS} (hs : s.1 ≤ N) : Gw N s (pC1 K V s).2 ∧ ((pC1 K V s).1 = true → s.1 < (pC1 K V s).2.1 ∧ (pC1 K V s).2.2.2.1 + s.1 < s.2.2.1 + (pC1 K V s).2.1) := by
  unfold pC1
  by_cases q : K s.1 < 4
  · have hlt := T.lt hs (show K s.1 ≠ 20 by omega)
    rw [if_pos q]
    by_cases q2 : K s.1 < 2
    · rw [if_pos q2]
      have X := (sumX T (s := tkS s) hlt (fun _ => (0, 0)) 0)
      have g := X.1
      obtain ⟨g1, g2, g3, g4, g5, g6⟩ := id g
      have g1 : s.1 + 1 ≤ (pSm K V 8 (tkS s)).2.1 := g1
      have g3 : (pSm K V 8 (tkS s)).2.2.2.1 + (s.1 + 1) ≤ s.2.2.1 + (pSm K V 8 (tkS s)).2.1 := g3
      exact ⟨(Gw.tk hlt).trans g, fun _ => ⟨by omega, by omega⟩⟩
    · rw [if_neg q2]
      exact ⟨Gw.tk hlt, fun _ => ⟨by show s.1 < s.1 + 1; omega, by show s.2.2.1 + s.1 < s.2.2.1 + (s.1 + 1); omega⟩⟩
  · rw [if_neg q]
    exact ⟨Gw.refl hs, fun z => by cases z⟩
theorem cl_gw (T : TkP K V N) {s : PS} (hs : s.1 ≤ N) (hsc : s.2.2.1 ≤ s.1) : Gw N s (pCl K V s).2 := by
  obtain ⟨g, g'⟩ := c1_gw T hs
  unfold pCl pC3
  by_cases ok : (pC1 K V s).1 = true
  · rw [if_pos ok]
    obtain ⟨a1, a2⟩ := g' ok
    by_cases q : K (pC1 K V s).2.1 = 4
    · rw [if_pos q]
      have hlt := T.lt g.2.1 (show K (pC1 K V s).2.1 ≠ 20 by omega)
      have k3 := g.2.2.1
      exact (g.trans (Gw.tk hlt)).trans (testX T (s := tkS (pC1 K V s).2) hlt (by show 1 ≤ _ + 1; omega) (by show (pC1 K V s).2.2.2.1 ≤ (pC1 K V s).2.1 + 1; omega) (fun _ => (0, 0)) (Nat.zero_le _)).1
    · rw [if_neg q]; exact g
  · rw [if_neg ok]; exact g
/-- clauses ahead of the k-th were read, each with a semicolon behind it -/
def CtU (K V : Nat → Nat) (k : Nat) : Prop := ∀ j, j < k → (pCl K V (pSt K V j)).1 = true ∧ K (pCl K V (pSt K V j)).2.1 = 159
theorem pSt_ok (T : TkP K V N) : ∀ k, CtU K V k → PsO N (pSt K V k)
  | 0, _ => ⟨Nat.zero_le _, Nat.le_refl _, Nat.zero_le _⟩
  | k + 1, h => by
    obtain ⟨a1, a2, a3⟩ := pSt_ok T k (fun j hj => h j (by omega))
    obtain ⟨g1, g2, g3, g4, g5, g6⟩ := cl_gw T a1 a2
    have hk := (h k (by omega)).2
    have hlt := T.lt g2 (show K (pCl K V (pSt K V k)).2.1 ≠ 20 by omega)
    exact ⟨hlt, by show (pCl K V (pSt K V k)).2.2.2.1 ≤ (pCl K V (pSt K V k)).2.1 + 1; omega, g6 a3⟩
end CLA
