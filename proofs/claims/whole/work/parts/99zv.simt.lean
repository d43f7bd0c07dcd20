/-! both readers say the same: tests -/
theorem VZ.not {v : VF} (h : VZ v) : VZ (vNot v) := by
  intro fc x hx
  unfold vNot at hx
  cases e : v fc with
  | none => rw [e] at hx; cases hx
  | some y =>
    rw [e] at hx
    injection hx with hx
    rcases h fc y e with z | z <;> rw [← hx, z]
    · exact Or.inr rfl
    · exact Or.inl rfl
theorem VZ.jmp {z : Int32} {v1 v2 : VF} (h1 : VZ v1) (h2 : VZ v2) : VZ (vJmp z v1 v2) := by
  intro fc x hx
  unfold vJmp at hx
  cases e : v1 fc with
  | none => rw [e] at hx; cases hx
  | some y =>
    rw [e] at hx
    have hx : (if y = z then some y else v2 fc) = some x := hx
    by_cases q : y = z
    · rw [if_pos q] at hx
      injection hx with hx
      rw [← hx]; exact h1 fc y e
    · rw [if_neg q] at hx; exact h2 fc x hx
theorem bI_z (p : Prop) [Decidable p] : bI p = 0 ∨ bI p = 1 := by
  by_cases h : p
  · exact Or.inr (bI_t h)
  · exact Or.inl (bI_f h)
theorem VZ.cmp {k : Nat} {v1 v2 : VF} (hk : 9 ≤ k ∧ k ≤ 11) : VZ (vBin k v1 v2) := by
  intro fc x hx
  unfold vBin at hx
  cases e1 : v1 fc with
  | none => rw [e1] at hx; cases hx
  | some a =>
    rw [e1] at hx
    cases e2 : v2 fc with
    | none => rw [e2] at hx; cases hx
    | some b =>
      rw [e2] at hx
      have hx : jn k a b = some x := hx
      have : k = 9 ∨ k = 10 ∨ k = 11 := by omega
      rcases this with rfl | rfl | rfl <;> (injection hx with hx; rw [← hx]; exact bI_z _)
theorem vNot2 (v : VF) : vNot (vNot v) = v := by
  funext fc
  unfold vNot
  cases v fc with
  | none => rfl
  | some x =>
    show some (1 - (1 - x)) = some x
    congr 1
    rw [Int32.sub_eq_add_neg, Int32.sub_eq_add_neg, Int32.neg_add, Int32.sub_eq_add_neg, Int32.neg_neg, ← Int32.add_assoc, Int32.add_right_neg, Int32.zero_add]
theorem Seg.nots {cd : Cd} {s need w : Nat} {v : VF} (hn : 2 ≤ need) : ∀ (k t : Nat), Seg cd s t need v → (∀ y, t ≤ y → y < t + k → cd y = (2, w)) → Seg cd s (t + k) need (if k % 2 = 0 then v else vNot v) := by
  intro k
  induction k with
  | zero => intro t h _; exact h
  | succ k ih =>
    intro t h hy
    have a := (ih t h fun y h1 h2 => hy y h1 (by omega)).neg (hy (t + k) (by omega) (by omega)) hn
    by_cases q : k % 2 = 0
    · rw [if_pos q] at a
      rw [if_neg (by omega)]; exact a
    · rw [if_neg q, vNot2] at a
      rw [if_pos (by omega)]; exact a
theorem nots_stl {p : Pl} (ht : ∀ x t, p = x :: t → bds x.1 < 3) : ∀ (k : Nat) (c : Cd) (n : Nat), ∃ c', stl 3 (List.replicate k (27, 0) ++ p) c n = (p, c', n + k) ∧ (∀ y, y < n → c' y = c y) ∧ ∀ y, n ≤ y → y < n + k → c' y = (27, 0) := by
  intro k
  induction k with
  | zero => intro c n; exact ⟨c, stl_stop ht c n, fun _ _ => rfl, fun y h1 h2 => by omega⟩
  | succ k ih =>
    intro c n
    obtain ⟨c', h1, h2, h3⟩ := ih (upC c n (27, 0)) (n + 1)
    refine ⟨c', ?_, fun y hy => ?_, fun y h4 h5 => ?_⟩
    · rw [List.replicate_succ, List.cons_append, stl, if_pos (by decide), if_neg (by decide), show n + (k + 1) = n + 1 + k by omega]
      exact h1
    · rw [h2 y (by omega), upC_off _ _ (by omega)]
    · by_cases e : y = n
      · rw [e, h2 n (by omega), upC_self]
      · exact h3 y (by omega) (by omega)
def StR (K V : Nat → Nat) (N : Nat) (L n : Nat) (s : PS) (p : Pl) (c : Cd) (nc : Nat) (r : Bool × PS) : Prop :=
  Gw N s r.2 ∧ (r.1 = false → ∃ (tn : Nat) (p' : Pl) (c' : Cd) (n' lv' op' : Nat), Rch K V true (0, s.1, p, c, nc, s.2.2.2, 8 - n, false) (tn, r.2.1, p', c', n', lv', op', true)) ∧
  (r.1 = true → s.1 < r.2.1 ∧ (∀ l, L ≤ l → l ≤ 2 → K r.2.1 ≠ kwL l) ∧ ∃ (σ : Pl) (c1 : Cd) (n1 : Nat) (c' : Cd) (n' : Nat) (v : VF), Rch K V true (0, s.1, p, c, nc, s.2.2.2, 8 - n, false) (2, r.2.1, σ ++ p, c1, n1, r.2.2.2.2, 8 - n, false) ∧ (∀ x ∈ σ, 20 ≤ x.1 ∧ x.1 ≤ 29) ∧ stl L (σ ++ p) c1 n1 = (p, c', n') ∧ Ex s r.2 c nc c' n' 21 v ∧ VZ v)
def SimT (K V : Nat → Nat) (N : Nat) (L n : Nat) (sub : PS → Bool × PS) : Prop :=
  ∀ (s : PS) (p : Pl) (c : Cd) (nc : Nat), s.1 ≤ N → 1 ≤ s.1 → s.2.2.1 ≤ s.1 → nc ≤ s.1 → (∀ x t, p = x :: t → bds x.1 < L) → inn p ≠ 31 → StR K V N L n s p c nc (sub s)
section TESTS
variable {K V : Nat → Nat} {N : Nat}
theorem jlp_sim {L n : Nat} {sub : PS → Bool × PS} (hN : N ≤ 400) (hK : K N = 20) (h12 : L = 1 ∨ L = 2) (hsub : SimT K V N (L + 1) n sub) : ∀ (f : Nat) (s s0 : PS) (p : Pl) (c : Cd) (nc : Nat) (σ : Pl) (c1 : Cd) (n1 : Nat) (c' : Cd) (n' : Nat) (v : VF),
    N < s.1 + f → 1 ≤ s0.1 → s0.2.2.1 ≤ s0.1 → nc ≤ s0.1 → (∀ x t, p = x :: t → bds x.1 < L) → inn p ≠ 31 → Gw N s0 s → s0.1 < s.1 → (∀ l, L + 1 ≤ l → l ≤ 2 → K s.1 ≠ kwL l) →
    Rch K V true (0, s0.1, p, c, nc, s0.2.2.2, 8 - n, false) (2, s.1, σ ++ p, c1, n1, s.2.2.2, 8 - n, false) → (∀ x ∈ σ, 20 ≤ x.1 ∧ x.1 ≤ 29) → stl L (σ ++ p) c1 n1 = (p, c', n') → Ex s0 s c nc c' n' 21 v → VZ v →
    StR K V N L n s0 p c nc (jlp K L sub f s) := by
  intro f
  induction f with
  | zero =>
    intro s s0 p c nc σ c1 n1 c' n' v hf _ _ _ ht _ G
    have := G.2.1
    omega
  | succ f ih =>
    intro s s0 p c nc σ c1 n1 c' n' v hf hs1 hsc hnc ht hin G hlt hx R hσ hst X hv
    rw [jlp]
    by_cases q : K s.1 = kwL L
    · rw [if_pos q]
      have hsN : s.1 < N := by
        rcases Nat.lt_or_ge s.1 N with z | z
        · exact z
        · have : s.1 = N := by have := G.2.1; omega
          rw [this, hK] at q; unfold kwL at q; omega
      have e0 : mstep K V true (2, s.1, σ ++ p, c1, n1, s.2.2.2, 8 - n, false) = (0, s.1 + 1, (joL L, n') :: p, upC c' n' (joL L, 0), n' + 1, s.2.2.2, 8 - n, false) := by
        show mTs K s.1 (σ ++ p) c1 n1 s.2.2.2 (8 - n) = _
        unfold mTs
        rcases h12 with rfl | rfl
        · rw [if_neg (by rw [q]; decide), if_pos (show K s.1 = 5 from q), hst]; rfl
        · rw [if_pos (show K s.1 = 6 from q), hst]; rfl
      have R1 := R.next e0
      have hjo : joL L = 28 ∨ joL L = 29 := by unfold joL; omega
      have hbd : bds (joL L) = L := by rcases h12 with rfl | rfl <;> rfl
      have hkd : kdM (joL L) = jkL L := by rcases h12 with rfl | rfl <;> rfl
      have hz : ∃ z : Int32, (jkL L = 3 ∧ z = 1) ∨ (jkL L = 4 ∧ z = 0) := by
        rcases h12 with rfl | rfl
        · exact ⟨1, Or.inl ⟨rfl, rfl⟩⟩
        · exact ⟨0, Or.inr ⟨rfl, rfl⟩⟩
      obtain ⟨zv, hz⟩ := hz
      obtain ⟨x1, x2, x3, x4, x5, x6, x7, x8⟩ := X
      have k3 := G.2.2.1
      have k4 := G.2.2.2.1
      have S := hsub (adS (jkL L) 0 (tkS s)) ((joL L, n') :: p) (upC c' n' (joL L, 0)) (n' + 1) hsN (by show 1 ≤ s.1 + 1; omega) (by show s.2.2.1 + 1 ≤ s.1 + 1; omega) (by show n' + 1 ≤ s.1 + 1; omega) (top0 (by omega)) (by rw [inn, if_neg (by show ¬ 30 ≤ joL L; omega)]; exact hin)
      have G0 : Gw N s0 (adS (jkL L) 0 (tkS s)) := (G.trans (Gw.tk hsN)).ad (by show s.2.2.1 + s0.1 < s0.2.2.1 + (s.1 + 1); omega)
      generalize sub (adS (jkL L) 0 (tkS s)) = r at S
      obtain ⟨S1, S2, S3⟩ := S
      have G1 := G0.trans S1
      by_cases ok : r.1 = true
      · rw [if_pos ok]
        obtain ⟨y1, y2, σ2, c2, n2, c'', n'', v2, r1, r2, r3, X2, hv2⟩ := S3 ok
        have r1 := R1.trans r1
        obtain ⟨z1, z2, z3, z4, z5, z6, z7, z8⟩ := X2
        have y1 : s.1 + 1 < r.2.1 := y1
        have z3 : n'' + (s.1 + 1) ≤ n' + 1 + r.2.1 := z3
        have z4 : s.2.2.1 + 1 < r.2.2.2.1 := z4
        obtain ⟨g1, g2, g3, g4, g5, g6⟩ := S1
        have g3 : r.2.2.2.1 + (s.1 + 1) ≤ s.2.2.1 + 1 + r.2.1 := g3
        have g5 : ∀ y, y < s.2.2.1 + 1 → r.2.2.1 y = upC s.2.1 s.2.2.1 (jkL L, 0) y := g5
        have ec : c'' n' = (joL L, 0) := by rw [z1 n' (by omega), upC_self]
        refine ih (ptS s.2.2.1 (jkL L) r.2) s0 p c nc (σ2 ++ [(joL L, n')]) c2 n2 (upC c'' n' (joL L, n'')) n'' (vJmp zv v v2) ?_ hs1 hsc hnc ht hin ?_ ?_ y2 ?_ ?_ ?_ ?_ (hv.jmp hv2)
        · show N < r.2.1 + f; omega
        · obtain ⟨a1, a2, a3, a4, a5, a6⟩ := G1
          exact ⟨a1, a2, a3, a4, fun y hy => by
            show upC _ _ _ y = _
            rw [upC_off _ _ (by omega)]; exact a5 y hy, a6⟩
        · show s0.1 < r.2.1; omega
        · rw [List.append_assoc]; exact r1
        · intro x hx
          rcases List.mem_append.mp hx with z | z
          · exact r2 x z
          · rw [List.mem_singleton] at z; rw [z]; show 20 ≤ joL L ∧ joL L ≤ 29; omega
        · rw [List.append_assoc, List.singleton_append, stl_to (Nat.le_succ L) r3, stl, if_pos (by show L ≤ bds (joL L); omega), if_pos hjo, stl_stop ht]
          show (p, upC c'' n' ((c'' n').1, n''), n'') = _
          rw [ec]
        · refine ⟨fun y hy => ?_, by omega, by show n'' + s0.1 ≤ nc + r.2.1; omega, by show s0.2.2.1 < r.2.2.2.1; omega, ?_, ?_, ?_, ?_⟩
          · rw [upC_off _ _ (by omega), z1 y (by omega), upC_off _ _ (by omega)]; exact x1 y hy
          · refine Seg.jmp (p := s.2.2.1) (k := jkL L) (x5.cong fun y h1 h2 => ?_) (z5.cong fun y h1 h2 => ?_) (upC_self _ _ _) hz (by omega)
            · show upC _ _ _ y = _
              rw [upC_off _ _ (by omega), g5 y (by omega), upC_off _ _ (by omega)]
            · have h1 : s.2.2.1 + 1 ≤ y := h1
              show upC _ _ _ y = _
              rw [upC_off _ _ (by omega)]
          · refine Seg.jmp (p := n') (k := jkL L) (x6.cong fun y h1 h2 => ?_) (z6.cong fun y h1 h2 => ?_) ?_ hz (by omega)
            · refine cdR_cong ?_
              rw [upC_off _ _ (by omega), z1 y (by omega), upC_off _ _ (by omega)]
            · exact cdR_cong (upC_off _ _ (by omega))
            · unfold cdR; rw [upC_self]
              show (kdM (joL L), if joL L = 0 ∨ 27 < joL L then n'' else joL L - 1) = _
              rw [hkd, if_pos (by omega)]
          · intro y h1 h2
            have h2 : y < r.2.2.2.1 := h2
            show (upC _ _ _ y).1 < 12 ∧ (upC _ _ _ y).2 < 4096 ∧ ((upC _ _ _ y).1 = 1 → (upC _ _ _ y).2 < 10)
            by_cases e : y = s.2.2.1
            · rw [e, upC_self]; exact ⟨by show jkL L < 12; unfold jkL; omega, by show r.2.2.2.1 < 4096; omega, fun h => by have h : jkL L = 1 := h; omega⟩
            · rw [upC_off _ _ e]
              rcases Nat.lt_or_ge y s.2.2.1 with z | z
              · rw [g5 y (by omega), upC_off _ _ e]; exact x7 y h1 z
              · exact z7 y (by show s.2.2.1 + 1 ≤ y; omega) h2
          · intro y h1 h2
            by_cases e : y = n'
            · rw [e, upC_self]; exact ⟨Or.inr (by show 20 ≤ joL L ∧ joL L ≤ 29; omega), by show n'' < 4096; omega, fun _ => by show n' < n''; omega⟩
            · rw [upC_off _ _ e]
              rcases Nat.lt_or_ge y n' with z | z
              · rw [z1 y (by omega), upC_off _ _ e]; exact x8 y h1 z
              · exact z8 y (by omega) h2
      · rw [if_neg ok]
        have nok : r.1 = false := by cases hh : r.1 with
          | true => exact absurd hh ok
          | false => rfl
        obtain ⟨tn, p', c3, n3, lv', op', r1⟩ := S2 nok
        exact ⟨G1, fun _ => ⟨tn, p', c3, n3, lv', op', R1.trans r1⟩, fun h => (Bool.noConfusion h)⟩
    · rw [if_neg q]
      refine ⟨G, fun h => (Bool.noConfusion h), fun _ => ⟨hlt, fun l h1 h2 => ?_, σ, c1, n1, c', n', v, R, hσ, hst, X, hv⟩⟩
      rcases Nat.lt_or_ge L l with z | z
      · exact hx l z h2
      · rw [show l = L by omega]; exact q
theorem jlv_sim {L n : Nat} {sub : PS → Bool × PS} (hN : N ≤ 400) (hK : K N = 20) (h12 : L = 1 ∨ L = 2) (hsub : SimT K V N (L + 1) n sub) : SimT K V N L n (jlv K L sub) := by
  intro s p c nc hs hs1 hsc hnc ht hin
  obtain ⟨S1, S2, S3⟩ := hsub s p c nc hs hs1 hsc hnc (fun x t e => by have := ht x t e; omega) hin
  unfold jlv
  by_cases ok : (sub s).1 = true
  · rw [if_pos ok]
    obtain ⟨y1, y2, σ, c1, n1, c', n', v, r1, r2, r3, X, hv⟩ := S3 ok
    refine jlp_sim hN hK h12 hsub 400 (sub s).2 s p c nc σ c1 n1 c' n' v (by omega) hs1 hsc hnc ht hin S1 y1 y2 r1 r2 ?_ X hv
    rw [stl_to (Nat.le_succ L) r3]; exact stl_stop ht _ _
  · rw [if_neg ok]
    have nok : (sub s).1 = false := by cases hh : (sub s).1 with
      | true => exact absurd hh ok
      | false => rfl
    exact ⟨S1, fun _ => S2 nok, fun h => (Bool.noConfusion h)⟩
theorem pNt_spec (hK : K N = 20) : ∀ (f : Nat) (t : Bool) (s : PS), s.1 ≤ N → N < s.1 + f → ∃ k, pNt K f t s = (if k % 2 = 0 then t else !t, (s.1 + k, s.2)) ∧ (∀ j, j < k → K (s.1 + j) = 7) ∧ K (s.1 + k) ≠ 7 ∧ s.1 + k ≤ N := by
  intro f
  induction f with
  | zero => intro t s h1 h2; omega
  | succ f ih =>
    intro t s h1 h2
    rw [pNt]
    by_cases q : K s.1 = 7
    · rw [if_pos q]
      have hsN : s.1 < N := by
        rcases Nat.lt_or_ge s.1 N with z | z
        · exact z
        · have : s.1 = N := by omega
          rw [this, hK] at q; cases q
      obtain ⟨k, a1, a2, a3, a4⟩ := ih (!t) (tkS s) hsN (by show N < s.1 + 1 + f; omega)
      refine ⟨k + 1, ?_, fun j hj => ?_, ?_, ?_⟩
      · rw [a1]
        show _ = (_, (s.1 + (k + 1), s.2))
        congr 1
        · by_cases e : k % 2 = 0
          · rw [if_pos e, if_neg (by omega)]
          · rw [if_neg e, if_pos (by omega), Bool.not_not]
        · show (s.1 + 1 + k, s.2) = _
          rw [show s.1 + 1 + k = s.1 + (k + 1) by omega]
      · cases j with
        | zero => exact q
        | succ j => have := a2 j (by omega); rw [show s.1 + (j + 1) = s.1 + 1 + j by omega]; exact this
      · rw [show s.1 + (k + 1) = s.1 + 1 + k by omega]; exact a3
      · have : s.1 + 1 + k ≤ N := a4
        omega
    · rw [if_neg q]
      exact ⟨0, rfl, fun j hj => by omega, q, h1⟩
theorem nots_run (c : Cd) (nc lv op : Nat) : ∀ (k i : Nat) (p : Pl), (∀ j, j < k → K (i + j) = 7) → Rch K V true (0, i, p, c, nc, lv, op, false) (0, i + k, List.replicate k (27, 0) ++ p, c, nc, lv, op, false) := by
  intro k
  induction k with
  | zero => intro i p _; exact Rch.refl _
  | succ k ih =>
    intro i p h
    have e0 : mstep K V true (0, i, p, c, nc, lv, op, false) = (0, i + 1, (27, 0) :: p, c, nc, lv, op, false) := by
      show mPlain K V i p c nc lv op = _
      unfold mPlain
      rw [if_pos (show K i = 7 from h 0 (by omega))]
    refine ((Rch.refl _).next e0).trans ?_
    have := ih (i + 1) ((27, 0) :: p) (fun j hj => by rw [show i + 1 + j = i + (j + 1) by omega]; exact h (j + 1) (by omega))
    rw [show i + (k + 1) = i + 1 + k by omega, List.replicate_succ', List.append_assoc]
    exact this
theorem fin_sim {n k : Nat} {s u : PS} {p σ : Pl} {c c1 c' : Cd} {nc n1 n' : Nat} {v : VF} (hN : N ≤ 400) (hsc : s.2.2.1 ≤ s.1) (hnc : nc ≤ s.1) (ht : ∀ x t, p = x :: t → bds x.1 < 3) (G : Gw N s u) (hlt : s.1 < u.1) (hk1 : u.2.2.1 + s.1 + k ≤ s.2.2.1 + u.1)
    (R : Rch K V true (0, s.1, p, c, nc, s.2.2.2, 8 - n, false) (2, u.1, σ ++ (List.replicate k (27, 0) ++ p), c1, n1, u.2.2.2, 8 - n, false)) (hσ : ∀ x ∈ σ, 20 ≤ x.1 ∧ x.1 ≤ 29) (hst : stl 3 (σ ++ (List.replicate k (27, 0) ++ p)) c1 n1 = stl 3 (List.replicate k (27, 0) ++ p) c' n')
    (x1 : ∀ y, y < nc → c' y = c y) (x2 : nc < n') (x3 : n' + s.1 + k ≤ nc + u.1) (x4 : s.2.2.1 < u.2.2.1) (x5 : Seg u.2.1 s.2.2.1 u.2.2.1 21 v) (x6 : Seg (cdR c') nc n' 21 v) (x7 : WfC u.2.1 s.2.2.1 u.2.2.1) (x8 : WfR c' nc n') (hv : VZ v) :
    StR K V N 3 n s p c nc (true, pFn (if k % 2 = 0 then false else !false) u) := by
  obtain ⟨c3, a1, a2, a3⟩ := nots_stl ht k c' n'
  have eu : (pFn (if k % 2 = 0 then false else !false) u).1 = u.1 := by unfold pFn; split <;> rfl
  have eu2 : (pFn (if k % 2 = 0 then false else !false) u).2.2.2 = u.2.2.2 := by unfold pFn; split <;> rfl
  have wr : WfR c3 nc (n' + k) := fun y h1 h2 => by
    rcases Nat.lt_or_ge y n' with z | z
    · rw [a2 y z]; exact x8 y h1 z
    · rw [a3 y z h2]; exact ⟨Or.inr (by decide), by decide, fun h => by cases (show 27 < 27 from h) <;> omega⟩
  have sr : Seg (cdR c3) nc (n' + k) 21 (if k % 2 = 0 then v else vNot v) := Seg.nots (w := 26) (by omega) k n' (x6.cong fun y h1 h2 => cdR_cong (a2 y h2)) (fun y h1 h2 => by unfold cdR; rw [a3 y h1 h2]; rfl)
  have hvz : VZ (if k % 2 = 0 then v else vNot v) := by
    split
    · exact hv
    · exact hv.not
  refine ⟨?_, fun h => (Bool.noConfusion h), fun _ => ⟨by show s.1 < (pFn _ u).1; rw [eu]; exact hlt, fun l h1 h2 => by omega, σ ++ List.replicate k (27, 0), c1, n1, c3, n' + k, _, ?_, ?_, ?_, ?_, hvz⟩⟩
  · by_cases q : k % 2 = 0
    · rw [if_pos q]; exact G
    · rw [if_neg q]; exact G.ad (by omega)
  · show Rch K V true _ (2, (pFn _ u).1, _, _, _, (pFn _ u).2.2.2, _, _)
    rw [eu, eu2, List.append_assoc]; exact R
  · intro x hx
    rcases List.mem_append.mp hx with z | z
    · exact hσ x z
    · have := List.eq_of_mem_replicate z
      rw [this]; decide
  · rw [List.append_assoc, hst]; exact a1
  · refine ⟨fun y hy => by rw [a2 y (by omega)]; exact x1 y hy, by omega, by show n' + k + s.1 ≤ nc + (pFn _ u).1; rw [eu]; omega, ?_, ?_, sr, ?_, wr⟩
    · show s.2.2.1 < (pFn _ u).2.2.1
      by_cases q : k % 2 = 0
      · rw [if_pos q]; exact x4
      · rw [if_neg q]; show s.2.2.1 < u.2.2.1 + 1; omega
    · show Seg (pFn _ u).2.1 s.2.2.1 (pFn _ u).2.2.1 21 _
      by_cases q : k % 2 = 0
      · rw [if_pos q, if_pos q]; exact x5
      · rw [if_neg q, if_neg q]
        exact (x5.cong (cd' := upC u.2.1 u.2.2.1 (2, 0)) fun y h1 h2 => upC_off _ _ (by omega)).neg (upC_self _ _ _) (by omega)
    · show WfC (pFn _ u).2.1 s.2.2.1 (pFn _ u).2.2.1
      by_cases q : k % 2 = 0
      · rw [if_pos q]; exact x7
      · rw [if_neg q]
        intro y h1 h2
        have h2 : y < u.2.2.1 + 1 := h2
        show (upC _ _ _ y).1 < 12 ∧ (upC _ _ _ y).2 < 4096 ∧ ((upC _ _ _ y).1 = 1 → (upC _ _ _ y).2 < 10)
        by_cases e : y = u.2.2.1
        · rw [e, upC_self]; exact ⟨by show 2 < 12; omega, by show 0 < 4096; omega, fun _ => by show 0 < 10; omega⟩
        · rw [upC_off _ _ e]; exact x7 y h1 (by omega)
theorem inn_nots (k : Nat) (p : Pl) : inn (List.replicate k (27, 0) ++ p) = inn p := inn_app fun x hx => by rw [List.eq_of_mem_replicate hx]; decide
theorem isCm_nots {p : Pl} (ht : ∀ x t, p = x :: t → bds x.1 < 3) (k : Nat) : isCm (List.replicate k (27, 0) ++ p) = false := by
  cases k with
  | succ k => rw [List.replicate_succ, List.cons_append, isCm, if_neg (by decide)]; rfl
  | zero =>
    show isCm p = false
    cases p with
    | nil => rfl
    | cons x t =>
      have h := ht x t rfl
      have h28 : 28 ≤ x.1 := by
        unfold bds at h
        repeat' split at h
        all_goals omega
      rw [isCm, if_neg (by omega)]
      exact decide_eq_false (by omega)
theorem top_nots {L : Nat} {p : Pl} (hL : 3 < L) (ht : ∀ x t, p = x :: t → bds x.1 < 3) (k : Nat) : ∀ x t, List.replicate k (27, 0) ++ p = x :: t → bds x.1 < L := by
  intro x t e
  cases k with
  | zero => have := ht x t e; omega
  | succ k =>
    rw [List.replicate_succ, List.cons_append] at e
    injection e with e1 e2
    rw [← e1]; exact hL
theorem cm_sim (hN : N ≤ 400) (hK : K N = 20) (hV : ∀ i, K i = 18 → V i ≤ 1000) {n k : Nat} (hn : n ≤ 8) {s : PS} {p : Pl} {c : Cd} {nc : Nat} (hsc : s.2.2.1 ≤ s.1) (hnc : nc ≤ s.1) (ht : ∀ x t, p = x :: t → bds x.1 < 3) (hin : inn p ≠ 31)
    (hk7 : ∀ j, j < k → K (s.1 + j) = 7) (h7 : K (s.1 + k) ≠ 7) (h140 : K (s.1 + k) ≠ 140) (hkN : s.1 + k ≤ N) : StR K V N 3 n s p c nc (pCm K V n (if k % 2 = 0 then false else !false) (pSm K V n (s.1 + k, s.2))) := by
  have R0 := nots_run (K := K) (V := V) c nc s.2.2.2 (8 - n) k s.1 p hk7
  have S := sum_sim (ts := true) hN hK hV hn (s.1 + k, s.2) (List.replicate k (27, 0) ++ p) c nc hkN (top_nots (by omega) ht k)
  have es : mstep K V true (0, s.1 + k, List.replicate k (27, 0) ++ p, c, nc, s.2.2.2, 8 - n, false) = mstep K V true (1, s.1 + k, List.replicate k (27, 0) ++ p, c, nc, s.2.2.2, 8 - n, false) := by
    show mPlain K V (s.1 + k) _ c nc s.2.2.2 (8 - n) = mPart K V (s.1 + k) _ c nc s.2.2.2 (8 - n)
    unfold mPlain
    rw [if_neg h7, if_neg h140]
  have Gk : Gw N s (s.1 + k, s.2) := ⟨by show s.1 ≤ s.1 + k; omega, hkN, by show s.2.2.1 + s.1 ≤ s.2.2.1 + (s.1 + k); omega, Nat.le_refl _, fun _ _ => rfl, fun h => h⟩
  generalize pSm K V n (s.1 + k, s.2) = r at S
  obtain ⟨S1, S2, S3⟩ := S
  have G1 := Gk.trans S1
  unfold pCm
  by_cases ok : r.1 = true
  · obtain ⟨y1, y2, σ, c1, n1, c', n', v, r1, r2, r3, X, hv⟩ := S3 ok
    have y1 : s.1 + k < r.2.1 := y1
    have a0 := arO_0 y2
    have r1 := R0.trans (r1.same es (fun h => by injection h with h; cases h))
    have hi : inn (σ ++ (List.replicate k (27, 0) ++ p)) ≠ 31 := by rw [inn_app fun x hx => by have := r2 x hx; omega, inn_nots]; exact hin
    have hc0 : isCm (σ ++ (List.replicate k (27, 0) ++ p)) = false := by rw [isCm_app r2]; exact isCm_nots ht k
    by_cases z : cmO (K r.2.1) ≠ 0
    · rw [if_pos ⟨ok, z⟩]
      have hrN : r.2.1 < N := by
        rcases Nat.lt_or_ge r.2.1 N with w | w
        · exact w
        · have : r.2.1 = N := by have := S1.2.1; omega
          rw [this, hK] at z; exact absurd rfl z
      have e1 : mstep K V true (3, r.2.1, σ ++ (List.replicate k (27, 0) ++ p), c1, n1, r.2.2.2.2, 8 - n, false) = (1, r.2.1 + 1, (cmO (K r.2.1), 0) :: (List.replicate k (27, 0) ++ p), c', n', r.2.2.2.2, 8 - n, false) := by
        show mSum K true r.2.1 _ c1 n1 r.2.2.2.2 (8 - n) = _
        unfold mSum
        rw [if_neg (by rw [a0]; exact fun h => h rfl), if_neg hi, if_neg (fun h => by cases h.2), if_neg (by rw [hc0]; exact fun h => (Bool.noConfusion h)), if_pos z, r3]
      have R1 := r1.next e1
      have hco : cmO (K r.2.1) = 24 ∨ cmO (K r.2.1) = 25 ∨ cmO (K r.2.1) = 26 := by rcases cmO_cases (K r.2.1) with w | w | w | w <;> omega
      have hb4 : bds (cmO (K r.2.1)) = 4 := by rcases hco with w | w | w <;> rw [w] <;> rfl
      obtain ⟨x1, x2, x3, x4, x5, x6, x7, x8⟩ := X
      have x3 : n' + (s.1 + k) ≤ nc + r.2.1 := x3
      have S' := sum_sim (ts := true) hN hK hV hn (tkS r.2) ((cmO (K r.2.1), 0) :: (List.replicate k (27, 0) ++ p)) c' n' hrN (top0 (by omega))
      generalize pSm K V n (tkS r.2) = u at S'
      obtain ⟨T1, T2, T3⟩ := S'
      have G2 := (G1.trans (Gw.tk hrN)).trans T1
      unfold pC2
      by_cases ok2 : u.1 = true
      · rw [if_pos ok2]
        obtain ⟨w1, w2, σ2, c2, n2, c'', n'', v2, q1, q2, q3, X2, hv2⟩ := T3 ok2
        have b0 := arO_0 w2
        have w1 : r.2.1 + 1 < u.2.1 := w1
        obtain ⟨z1, z2, z3, z4, z5, z6, z7, z8⟩ := X2
        have z3 : n'' + (r.2.1 + 1) ≤ n' + u.2.1 := z3
        have z4 : r.2.2.2.1 < u.2.2.2.1 := z4
        obtain ⟨g1, g2, g3, g4, g5, g6⟩ := T1
        have g3 : u.2.2.2.1 + (r.2.1 + 1) ≤ r.2.2.2.1 + u.2.1 := g3
        have g5 : ∀ y, y < r.2.2.2.1 → u.2.2.1 y = r.2.2.1 y := g5
        obtain ⟨h1, h2, h3, h4, h5, h6⟩ := S1
        have h3 : r.2.2.2.1 + (s.1 + k) ≤ s.2.2.1 + r.2.1 := h3
        have x4 : s.2.2.1 < r.2.2.2.1 := x4
        have e2 : mstep K V true (3, u.2.1, σ2 ++ (cmO (K r.2.1), 0) :: (List.replicate k (27, 0) ++ p), c2, n2, u.2.2.2.2, 8 - n, false) = (2, u.2.1, σ2 ++ (cmO (K r.2.1), 0) :: (List.replicate k (27, 0) ++ p), c2, n2, u.2.2.2.2, 8 - n, false) := by
          show mSum K true u.2.1 _ c2 n2 u.2.2.2.2 (8 - n) = _
          unfold mSum
          rw [if_neg (by rw [b0]; exact fun h => h rfl), if_neg (by rw [inn_app fun x hx => by have := q2 x hx; omega, inn, if_neg (by show ¬ 30 ≤ cmO (K r.2.1); omega), inn_nots]; exact hin), if_neg (fun h => by cases h.2), if_pos (by rw [isCm_app q2, isCm, if_neg (by show ¬ (20 ≤ cmO (K r.2.1) ∧ cmO (K r.2.1) ≤ 23); omega)]; exact decide_eq_true (by show 24 ≤ cmO (K r.2.1) ∧ cmO (K r.2.1) ≤ 26; omega))]
        refine fin_sim (u := adS (cmO (K r.2.1) - 15) 0 u.2) (σ := σ2 ++ [(cmO (K r.2.1), 0)]) (c1 := c2) (n1 := n2) (c' := upC c'' n'' (cmO (K r.2.1), 0)) (n' := n'' + 1) (v := vBin (cmO (K r.2.1) - 15) v v2) hN hsc hnc ht ?_ ?_ ?_ ?_ ?_ ?_ ?_ ?_ ?_ ?_ ?_ ?_ ?_ ?_ (VZ.cmp (by omega))
        · exact G2.ad (by omega)
        · show s.1 < u.2.1; omega
        · show u.2.2.2.1 + 1 + s.1 + k ≤ s.2.2.1 + u.2.1; omega
        · rw [List.append_assoc]; exact (R1.trans q1).next e2
        · intro x hx
          rcases List.mem_append.mp hx with z | z
          · have := q2 x z; omega
          · rw [List.mem_singleton] at z; rw [z]; show 20 ≤ cmO (K r.2.1) ∧ cmO (K r.2.1) ≤ 29; omega
        · rw [List.append_assoc, List.singleton_append, stl_to (show 3 ≤ 5 by omega) q3, stl, if_pos (by show 3 ≤ bds (cmO (K r.2.1)); omega), if_neg (by show ¬ (cmO (K r.2.1) = 28 ∨ cmO (K r.2.1) = 29); omega)]
        · intro y hy
          rw [upC_off _ _ (by omega), z1 y (by omega)]; exact x1 y hy
        · omega
        · show n'' + 1 + s.1 + k ≤ nc + u.2.1; omega
        · show s.2.2.1 < u.2.2.2.1 + 1; omega
        · refine Seg.bin (p := r.2.2.2.1) (w := 0) (need := 20) (Seg.wide (x5.cong fun y h1 h2 => ?_) (by omega)) (z5.cong fun y h1 h2 => ?_) (upC_self _ _ _) (by omega) (by omega)
          · show upC _ _ _ y = _
            rw [upC_off _ _ (by omega)]; exact g5 y h2
          · show upC _ _ _ y = _
            rw [upC_off _ _ (by omega)]
        · refine Seg.bin (p := n') (need := 20) (Seg.wide (x6.cong fun y h1 h2 => ?_) (by omega)) (z6.cong fun y h1 h2 => ?_) (cdR_op _ _ (by omega) (by omega)) (by omega) (by omega)
          · refine cdR_cong ?_
            rw [upC_off _ _ (by omega)]; exact z1 y h2
          · exact cdR_cong (upC_off _ _ (by omega))
        · intro y h1 h2
          have h2 : y < u.2.2.2.1 + 1 := h2
          show (upC _ _ _ y).1 < 12 ∧ (upC _ _ _ y).2 < 4096 ∧ ((upC _ _ _ y).1 = 1 → (upC _ _ _ y).2 < 10)
          by_cases e : y = u.2.2.2.1
          · rw [e, upC_self]; exact ⟨by show cmO (K r.2.1) - 15 < 12; omega, by show 0 < 4096; omega, fun _ => by show 0 < 10; omega⟩
          · rw [upC_off _ _ e]
            rcases Nat.lt_or_ge y r.2.2.2.1 with z | z
            · rw [g5 y z]; exact x7 y h1 z
            · exact z7 y z (by omega)
        · intro y h1 h2
          by_cases e : y = n''
          · rw [e, upC_self]; exact ⟨Or.inr (by show 20 ≤ cmO (K r.2.1) ∧ cmO (K r.2.1) ≤ 29; omega), by show 0 < 4096; omega, fun h => by have h : 27 < cmO (K r.2.1) := h; omega⟩
          · rw [upC_off _ _ e]
            rcases Nat.lt_or_ge y n' with z | z
            · rw [z1 y z]; exact x8 y h1 z
            · exact z8 y z (by omega)
      · rw [if_neg ok2]
        have nok : u.1 = false := by cases hh : u.1 with
          | true => exact absurd hh ok2
          | false => rfl
        obtain ⟨tn, p', c3, n3, lv', op', q1⟩ := T2 nok
        exact ⟨G2, fun _ => ⟨tn, p', c3, n3, lv', op', R1.trans q1⟩, fun h => (Bool.noConfusion h)⟩
    · rw [if_neg (fun h => z h.2)]
      have e1 : mstep K V true (3, r.2.1, σ ++ (List.replicate k (27, 0) ++ p), c1, n1, r.2.2.2.2, 8 - n, false) = (1, r.2.1, σ ++ (List.replicate k (27, 0) ++ p), c1, n1, r.2.2.2.2, 8 - n, true) := by
        show mSum K true r.2.1 _ c1 n1 r.2.2.2.2 (8 - n) = _
        unfold mSum
        rw [if_neg (by rw [a0]; exact fun h => h rfl), if_neg hi, if_neg (fun h => by cases h.2), if_neg (by rw [hc0]; exact fun h => (Bool.noConfusion h)), if_neg z]
      exact ⟨G1, fun _ => ⟨_, _, _, _, _, _, r1.next e1⟩, fun h => (Bool.noConfusion h)⟩
  · rw [if_neg (fun h => ok h.1)]
    have nok : r.1 = false := by cases hh : r.1 with
      | true => exact absurd hh ok
      | false => rfl
    obtain ⟨tn, p', c3, n3, lv', op', r1⟩ := S2 nok
    exact ⟨G1, fun _ => ⟨tn, p', c3, n3, lv', op', R0.trans (r1.same es (fun h => by simp at h))⟩, fun h => (Bool.noConfusion h)⟩
theorem plain_sim (hN : N ≤ 400) (hK : K N = 20) (hV : ∀ i, K i = 18 → V i ≤ 1000) : ∀ n, n ≤ 8 → SimT K V N 3 n (pPl K V n) := by
  intro n
  induction n with
  | zero =>
    intro hn s p c nc hs hs1 hsc hnc ht hin
    obtain ⟨k, a1, a2, a3, a4⟩ := pNt_spec hK 400 false s hs (by omega)
    show StR K V N 3 0 s p c nc (if K (pNt K 400 false s).2.1 = 140 then (false, (pNt K 400 false s).2) else pCm K V 0 (pNt K 400 false s).1 (pSm K V 0 (pNt K 400 false s).2))
    rw [a1]
    show StR K V N 3 0 s p c nc (if K (s.1 + k) = 140 then (false, (s.1 + k, s.2)) else pCm K V 0 (if k % 2 = 0 then false else !false) (pSm K V 0 (s.1 + k, s.2)))
    by_cases q : K (s.1 + k) = 140
    · rw [if_pos q]
      have R0 := nots_run (K := K) (V := V) c nc s.2.2.2 (8 - 0) k s.1 p a2
      have e0 : mstep K V true (0, s.1 + k, List.replicate k (27, 0) ++ p, c, nc, s.2.2.2, 8 - 0, false) = (0, s.1 + k, List.replicate k (27, 0) ++ p, c, nc, s.2.2.2, 8, true) := by
        show mPlain K V (s.1 + k) _ c nc s.2.2.2 8 = _
        unfold mPlain
        rw [if_neg a3, if_pos q, if_neg (by omega)]
      exact ⟨⟨by show s.1 ≤ s.1 + k; omega, a4, by show s.2.2.1 + s.1 ≤ s.2.2.1 + (s.1 + k); omega, Nat.le_refl _, fun _ _ => rfl, fun h => h⟩, fun _ => ⟨_, _, _, _, _, _, R0.next e0⟩, fun h => (Bool.noConfusion h)⟩
    · rw [if_neg q]
      exact cm_sim hN hK hV hn hsc hnc ht hin a2 a3 q a4
  | succ n ih =>
    intro hn s p c nc hs hs1 hsc hnc ht hin
    obtain ⟨k, a1, a2, a3, a4⟩ := pNt_spec hK 400 false s hs (by omega)
    show StR K V N 3 (n + 1) s p c nc (if K (pNt K 400 false s).2.1 = 140 then pB2 K (pNt K 400 false s).1 (pTs K V n (tkS (pNt K 400 false s).2)) else pCm K V (n + 1) (pNt K 400 false s).1 (pSm K V (n + 1) (pNt K 400 false s).2))
    rw [a1]
    show StR K V N 3 (n + 1) s p c nc (if K (s.1 + k) = 140 then pB2 K (if k % 2 = 0 then false else !false) (pTs K V n (s.1 + k + 1, s.2)) else pCm K V (n + 1) (if k % 2 = 0 then false else !false) (pSm K V (n + 1) (s.1 + k, s.2)))
    by_cases q : K (s.1 + k) = 140
    · rw [if_pos q]
      have R0 := nots_run (K := K) (V := V) c nc s.2.2.2 (8 - (n + 1)) k s.1 p a2
      have e0 : mstep K V true (0, s.1 + k, List.replicate k (27, 0) ++ p, c, nc, s.2.2.2, 8 - (n + 1), false) = (0, s.1 + k + 1, (30, 0) :: (List.replicate k (27, 0) ++ p), c, nc, s.2.2.2, 8 - n, false) := by
        show mPlain K V (s.1 + k) _ c nc s.2.2.2 (8 - (n + 1)) = _
        unfold mPlain
        rw [if_neg a3, if_pos q, if_pos (by omega), show 8 - (n + 1) + 1 = 8 - n by omega]
      have hsN : s.1 + k < N := by
        rcases Nat.lt_or_ge (s.1 + k) N with z | z
        · exact z
        · have : s.1 + k = N := by omega
          rw [this, hK] at q; cases q
      have S := (jlv_sim hN hK (Or.inl rfl) (jlv_sim hN hK (Or.inr rfl) (ih (by omega)))) (s.1 + k + 1, s.2) ((30, 0) :: (List.replicate k (27, 0) ++ p)) c nc hsN (by show 1 ≤ s.1 + k + 1; omega) (by show s.2.2.1 ≤ s.1 + k + 1; omega) (by show nc ≤ s.1 + k + 1; omega) (top0 (by decide)) (by rw [inn, if_pos (by decide)]; decide)
      have R1 := R0.next e0
      have Gk : Gw N s (s.1 + k + 1, s.2) := ⟨by show s.1 ≤ s.1 + k + 1; omega, hsN, by show s.2.2.1 + s.1 ≤ s.2.2.1 + (s.1 + k + 1); omega, Nat.le_refl _, fun _ _ => rfl, fun h => h⟩
      change StR K V N 1 n _ _ c nc (pTs K V n (s.1 + k + 1, s.2)) at S
      generalize pTs K V n (s.1 + k + 1, s.2) = r at S
      obtain ⟨S1, S2, S3⟩ := S
      have G1 := Gk.trans S1
      unfold pB2
      by_cases ok : r.1 = true
      · obtain ⟨y1, y2, σ, c1, n1, c', n', v, r1, r2, r3, X, hv⟩ := S3 ok
        have y1 : s.1 + k + 1 < r.2.1 := y1
        have k5 : K r.2.1 ≠ 5 := y2 1 (by omega) (by omega)
        have k6 : K r.2.1 ≠ 6 := y2 2 (by omega) (by omega)
        have hi : inn (σ ++ (30, 0) :: (List.replicate k (27, 0) ++ p)) = 30 := by rw [inn_app fun x hx => by have := r2 x hx; omega]; rfl
        by_cases z : K r.2.1 = 141
        · rw [if_pos ⟨ok, z⟩]
          have hrN : r.2.1 < N := by
            rcases Nat.lt_or_ge r.2.1 N with w | w
            · exact w
            · have : r.2.1 = N := by have := S1.2.1; omega
              rw [this, hK] at z; cases z
          have e1 : mstep K V true (2, r.2.1, σ ++ (30, 0) :: (List.replicate k (27, 0) ++ p), c1, n1, r.2.2.2.2, 8 - n, false) = (2, r.2.1 + 1, List.replicate k (27, 0) ++ p, c', n', r.2.2.2.2, 8 - (n + 1), false) := by
            show mTs K r.2.1 _ c1 n1 r.2.2.2.2 (8 - n) = _
            unfold mTs
            rw [if_neg k6, if_neg k5, if_neg (by rw [hi]; decide), if_pos z, r3, if_neg (show ¬ (8 - n = 0 ∨ _ :: _ = ([] : Pl)) from fun q => q.elim (fun y => absurd y (by omega)) (fun y => absurd y (List.cons_ne_nil _ _))), show 8 - n - 1 = 8 - (n + 1) by omega]; rfl
          obtain ⟨x1, x2, x3, x4, x5, x6, x7, x8⟩ := X
          have x3 : n' + (s.1 + k + 1) ≤ nc + r.2.1 := x3
          obtain ⟨h1, h2, h3, h4, h5, h6⟩ := S1
          have h3 : r.2.2.2.1 + (s.1 + k + 1) ≤ s.2.2.1 + r.2.1 := h3
          exact fin_sim (u := tkS r.2) (σ := []) (c1 := c') (n1 := n') (c' := c') (n' := n') (v := v) hN hsc hnc ht (G1.trans (Gw.tk hrN)) (by show s.1 < r.2.1 + 1; omega) (by show r.2.2.2.1 + s.1 + k ≤ s.2.2.1 + (r.2.1 + 1); omega) ((R1.trans r1).next e1) (fun x hx => absurd hx List.not_mem_nil) rfl x1 x2 (by show n' + s.1 + k ≤ nc + (r.2.1 + 1); omega) x4 x5 x6 x7 x8 hv
        · rw [if_neg (fun h => z h.2)]
          have e1 : mstep K V true (2, r.2.1, σ ++ (30, 0) :: (List.replicate k (27, 0) ++ p), c1, n1, r.2.2.2.2, 8 - n, false) = (2, r.2.1, σ ++ (30, 0) :: (List.replicate k (27, 0) ++ p), c1, n1, r.2.2.2.2, 8 - n, true) := by
            show mTs K r.2.1 _ c1 n1 r.2.2.2.2 (8 - n) = _
            unfold mTs
            rw [if_neg k6, if_neg k5, if_neg (by rw [hi]; decide), if_neg z]
          exact ⟨G1, fun _ => ⟨_, _, _, _, _, _, (R1.trans r1).next e1⟩, fun h => (Bool.noConfusion h)⟩
      · rw [if_neg (fun h => ok h.1)]
        have nok : r.1 = false := by cases hh : r.1 with
          | true => exact absurd hh ok
          | false => rfl
        obtain ⟨tn, p', c3, n3, lv', op', r1⟩ := S2 nok
        exact ⟨G1, fun _ => ⟨tn, p', c3, n3, lv', op', R1.trans r1⟩, fun h => (Bool.noConfusion h)⟩
    · rw [if_neg q]
      exact cm_sim hN hK hV hn hsc hnc ht hin a2 a3 q a4
theorem test_sim (hN : N ≤ 400) (hK : K N = 20) (hV : ∀ i, K i = 18 → V i ≤ 1000) {n : Nat} (hn : n ≤ 8) : SimT K V N 1 n (pTs K V n) :=
  jlv_sim hN hK (Or.inl rfl) (jlv_sim hN hK (Or.inr rfl) (plain_sim hN hK hV n hn))
end TESTS
