/-! both readers say the same: sums -/
def WfC (c : Cd) (lo hi : Nat) : Prop := ∀ p, lo ≤ p → p < hi → (c p).1 < 12 ∧ (c p).2 < 4096 ∧ ((c p).1 = 1 → (c p).2 < 10)
def WfR (c : Cd) (lo hi : Nat) : Prop := ∀ p, lo ≤ p → p < hi → ((c p).1 ≤ 10 ∨ (20 ≤ (c p).1 ∧ (c p).1 ≤ 29)) ∧ (c p).2 < 4096 ∧ (27 < (c p).1 → p < (c p).2)
/-- the class goes on, from s to s' -/
def Gw (N : Nat) (s s' : PS) : Prop := s.1 ≤ s'.1 ∧ s'.1 ≤ N ∧ s'.2.2.1 + s.1 ≤ s.2.2.1 + s'.1 ∧ s.2.2.1 ≤ s'.2.2.1 ∧ (∀ p, p < s.2.2.1 → s'.2.1 p = s.2.1 p) ∧ (s.2.2.2 ≤ 50 → s'.2.2.2 ≤ 50)
theorem Gw.refl {N : Nat} {s : PS} (h : s.1 ≤ N) : Gw N s s := ⟨Nat.le_refl _, h, by omega, Nat.le_refl _, fun _ _ => rfl, fun h => h⟩
theorem Gw.trans {N : Nat} {s s' s'' : PS} (a : Gw N s s') (b : Gw N s' s'') : Gw N s s'' := by
  obtain ⟨a1, a2, a3, a4, a5, a6⟩ := a
  obtain ⟨b1, b2, b3, b4, b5, b6⟩ := b
  exact ⟨by omega, b2, by omega, by omega, fun p hp => (b5 p (by omega)).trans (a5 p hp), fun h => b6 (a6 h)⟩
theorem Gw.tk {N : Nat} {s : PS} (h : s.1 < N) : Gw N s (tkS s) := ⟨by show s.1 ≤ s.1 + 1; omega, by show s.1 + 1 ≤ N; omega, by show s.2.2.1 + s.1 ≤ s.2.2.1 + (s.1 + 1); omega, Nat.le_refl _, fun _ _ => rfl, fun h => h⟩
/-- a token that was taken pays for a step -/
theorem Gw.ad {N k w : Nat} {s s' : PS} (a : Gw N s s') (h : s'.2.2.1 + s.1 < s.2.2.1 + s'.1) : Gw N s (adS k w s') := by
  obtain ⟨a1, a2, a3, a4, a5, a6⟩ := a
  exact ⟨a1, a2, by show s'.2.2.1 + 1 + s.1 ≤ _ + s'.1; omega, by show _ ≤ s'.2.2.1 + 1; omega, fun p hp => by
    show upC _ _ _ p = _
    rw [upC_off _ _ (by omega)]; exact a5 p hp, a6⟩
/-- what both wrote -/
def Ex (s s' : PS) (c : Cd) (n : Nat) (c' : Cd) (n' need : Nat) (v : VF) : Prop := (∀ p, p < n → c' p = c p) ∧ n < n' ∧ n' + s.1 ≤ n + s'.1 ∧ s.2.2.1 < s'.2.2.1 ∧ Seg s'.2.1 s.2.2.1 s'.2.2.1 need v ∧ Seg (cdR c') n n' need v ∧ WfC s'.2.1 s.2.2.1 s'.2.2.1 ∧ WfR c' n n'
def SxR (K V : Nat → Nat) (N : Nat) (ts : Bool) (L need n : Nat) (s : PS) (p : Pl) (c : Cd) (nc : Nat) (r : Bool × PS) : Prop :=
  Gw N s r.2 ∧ (r.1 = false → ∃ (tn : Nat) (p' : Pl) (c' : Cd) (n' lv' op' : Nat), Rch K V ts (1, s.1, p, c, nc, s.2.2.2, 8 - n, false) (tn, r.2.1, p', c', n', lv', op', true)) ∧
  (r.1 = true → s.1 < r.2.1 ∧ (∀ l, L ≤ l → l ≤ 6 → bds (arO (K r.2.1)) ≠ l) ∧ ∃ (σ : Pl) (c1 : Cd) (n1 : Nat) (c' : Cd) (n' : Nat) (v : VF), Rch K V ts (1, s.1, p, c, nc, s.2.2.2, 8 - n, false) (3, r.2.1, σ ++ p, c1, n1, r.2.2.2.2, 8 - n, false) ∧ (∀ x ∈ σ, 20 ≤ x.1 ∧ x.1 ≤ 23) ∧ stl L (σ ++ p) c1 n1 = (p, c', n') ∧ Ex s r.2 c nc c' n' need v ∧ VOk v)
def SimX (K V : Nat → Nat) (N : Nat) (ts : Bool) (L need n : Nat) (sub : PS → Bool × PS) : Prop :=
  ∀ (s : PS) (p : Pl) (c : Cd) (nc : Nat), s.1 ≤ N → (∀ x t, p = x :: t → bds x.1 < L) → SxR K V N ts L need n s p c nc (sub s)
theorem cdR_cong {c c' : Cd} {p : Nat} (h : c' p = c p) : cdR c' p = cdR c p := by unfold cdR; rw [h]
theorem cdR_num (c : Cd) (n w : Nat) : cdR (upC c n (0, w)) n = (0, w) := by unfold cdR; rw [upC_self]; rfl
theorem cdR_fact (c : Cd) (n : Nat) {o : Nat} (h1 : 1 ≤ o) (h2 : o ≤ 10) : cdR (upC c n (o, 0)) n = (1, o - 1) := by
  unfold cdR; rw [upC_self]
  show (kdM o, if o = 0 ∨ 27 < o then 0 else o - 1) = _
  rw [if_neg (by omega)]; unfold kdM; rw [if_neg (by omega), if_pos (by omega)]
theorem cdR_op (c : Cd) (n : Nat) {o : Nat} (h1 : 20 ≤ o) (h2 : o < 27) : cdR (upC c n (o, 0)) n = (o - 15, o - 1) := by
  unfold cdR; rw [upC_self]
  show (kdM o, if o = 0 ∨ 27 < o then 0 else o - 1) = _
  rw [if_neg (by omega)]; unfold kdM; rw [if_neg (by omega), if_neg (by omega), if_pos (by omega)]
theorem arO_cases (k : Nat) : arO k = 0 ∨ arO k = 20 ∨ arO k = 21 ∨ arO k = 22 ∨ arO k = 23 := by
  unfold arO; repeat' split
  all_goals omega
theorem cmO_cases (k : Nat) : cmO k = 0 ∨ cmO k = 24 ∨ cmO k = 25 ∨ cmO k = 26 := by
  unfold cmO; repeat' split
  all_goals omega
theorem VOk.bin (k : Nat) (v1 v2 : VF) : VOk (vBin k v1 v2) := by
  intro fc _ x hx
  unfold vBin at hx
  cases h1 : v1 fc with
  | none => rw [h1] at hx; cases hx
  | some a =>
    rw [h1] at hx
    cases h2 : v2 fc with
    | none => rw [h2] at hx; cases hx
    | some b => rw [h2] at hx; exact jn_bd hx
section SUMS
variable {K V : Nat → Nat} {N : Nat} {ts : Bool}
theorem leaf_sim (hK : K N = 20) (hV : ∀ i, K i = 18 → V i ≤ 1000) {n : Nat} {s : PS} {p : Pl} {c : Cd} {nc : Nat} (hs : s.1 ≤ N) (ht : ∀ x t, p = x :: t → bds x.1 < 7) (hb : ¬ K s.1 = 191) : SxR K V N ts 7 2 n s p c nc (pLf K V s) := by
  have e0 : mstep K V ts (1, s.1, p, c, nc, s.2.2.2, 8 - n, false) = mPart K V s.1 p c nc s.2.2.2 (8 - n) := rfl
  unfold mPart at e0
  rw [if_neg hb] at e0
  unfold pLf
  by_cases q : (8 ≤ K s.1 ∧ K s.1 ≤ 18) ∧ s.2.2.2 < 50
  · have hlt : s.1 < N := by
      rcases Nat.lt_or_ge s.1 N with z | z
      · exact z
      · have : s.1 = N := by omega
        rw [this, hK] at q; omega
    rw [if_pos q] at e0 ⊢
    refine ⟨⟨by show s.1 ≤ s.1 + 1; omega, hlt, by show s.2.2.1 + 1 + s.1 ≤ s.2.2.1 + (s.1 + 1); omega, by show s.2.2.1 ≤ s.2.2.1 + 1; omega, fun z hz => upC_off _ _ (by omega), fun _ => q.2⟩, fun h => (Bool.noConfusion h), fun _ => ⟨Nat.lt_succ_self _, fun l h1 h2 => by omega, [], _, _, _, _, (fun fc => if K s.1 = 18 then some (nI (V s.1)) else some (fc (K s.1 - 8))), (Rch.refl _).next e0, fun x hx => absurd hx List.not_mem_nil, stl_stop ht _ _, ?_, ?_⟩⟩
    · by_cases z : K s.1 = 18
      · rw [if_pos z, if_pos z]
        refine ⟨fun y hy => upC_off _ _ (by omega), by omega, by show nc + 1 + s.1 ≤ nc + (s.1 + 1); omega, Nat.lt_succ_self _, ?_, ?_, ?_, ?_⟩
        · simp only [z, if_true]; exact Seg.num (upC_self _ _ _) (by omega)
        · simp only [z, if_true]; exact Seg.num (cdR_num _ _ _) (by omega)
        · intro y h1 h2
          have : y = s.2.2.1 := by have : y < s.2.2.1 + 1 := h2; omega
          subst this
          show (upC _ _ _ _).1 < 12 ∧ (upC _ _ _ _).2 < 4096 ∧ ((upC _ _ _ _).1 = 1 → (upC _ _ _ _).2 < 10)
          rw [upC_self]
          exact ⟨by show 0 < 12; omega, by have := hV _ z; show V s.1 < 4096; omega, fun h => by have h : 0 = 1 := h; omega⟩
        · intro y h1 h2
          have : y = nc := by omega
          subst this
          rw [upC_self]
          exact ⟨Or.inl (Nat.zero_le _), by have := hV _ z; show V s.1 < 4096; omega, fun h => by have : 27 < 0 := h; omega⟩
      · rw [if_neg z, if_neg z]
        refine ⟨fun y hy => upC_off _ _ (by omega), by omega, by show nc + 1 + s.1 ≤ nc + (s.1 + 1); omega, Nat.lt_succ_self _, ?_, ?_, ?_, ?_⟩
        · simp only [z, if_false]; exact Seg.fact (upC_self _ _ _) (by omega)
        · simp only [z, if_false]
          exact Seg.fact (by rw [cdR_fact _ _ (by omega) (by omega)]; congr 1) (by omega)
        · intro y h1 h2
          have : y = s.2.2.1 := by have : y < s.2.2.1 + 1 := h2; omega
          subst this
          show (upC _ _ _ _).1 < 12 ∧ (upC _ _ _ _).2 < 4096 ∧ ((upC _ _ _ _).1 = 1 → (upC _ _ _ _).2 < 10)
          rw [upC_self]
          exact ⟨by show 1 < 12; omega, by show K s.1 - 8 < 4096; omega, fun _ => by show K s.1 - 8 < 10; omega⟩
        · intro y h1 h2
          have : y = nc := by omega
          subst this
          rw [upC_self]
          exact ⟨Or.inl (by show K s.1 - 7 ≤ 10; omega), by show 0 < 4096; omega, fun h => by have : 27 < K s.1 - 7 := h; omega⟩
    · intro fc hf x hx
      have hx : (if K s.1 = 18 then some (nI (V s.1)) else some (fc (K s.1 - 8))) = some x := hx
      by_cases z : K s.1 = 18
      · rw [if_pos z] at hx
        injection hx with hx
        have := hV _ z
        rw [← hx, nI_toInt (by omega)]; omega
      · rw [if_neg z] at hx
        injection hx with hx
        rw [← hx]; exact hf _ (by omega)
  · rw [if_neg q] at e0 ⊢
    exact ⟨Gw.refl hs, fun _ => ⟨_, _, _, _, _, _, (Rch.refl _).next e0⟩, fun h => (Bool.noConfusion h)⟩
theorem plp_sim {L need n : Nat} {sub : PS → Bool × PS} (hK : K N = 20) (h5 : L = 5 ∨ L = 6) (hsub : SimX K V N ts (L + 1) need n sub) (hneed : 2 ≤ need) : ∀ (f : Nat) (s s0 : PS) (p : Pl) (c : Cd) (nc : Nat) (σ : Pl) (c1 : Cd) (n1 : Nat) (c' : Cd) (n' : Nat) (v : VF),
    N < s.1 + f → (∀ x t, p = x :: t → bds x.1 < L) → Gw N s0 s → s0.1 < s.1 → (∀ l, L + 1 ≤ l → l ≤ 6 → bds (arO (K s.1)) ≠ l) →
    Rch K V ts (1, s0.1, p, c, nc, s0.2.2.2, 8 - n, false) (3, s.1, σ ++ p, c1, n1, s.2.2.2, 8 - n, false) → (∀ x ∈ σ, 20 ≤ x.1 ∧ x.1 ≤ 23) → stl L (σ ++ p) c1 n1 = (p, c', n') → Ex s0 s c nc c' n' (need + 1) v → VOk v →
    SxR K V N ts L (need + 1) n s0 p c nc (plp K L sub f s) := by
  intro f
  induction f with
  | zero =>
    intro s s0 p c nc σ c1 n1 c' n' v hf ht G
    have := G.2.1
    omega
  | succ f ih =>
    intro s s0 p c nc σ c1 n1 c' n' v hf ht G hlt hx R hσ hst X hv
    rw [plp]
    by_cases q : bds (arO (K s.1)) = L
    · rw [if_pos q]
      have ho : 20 ≤ arO (K s.1) ∧ arO (K s.1) ≤ 23 := by
        rcases arO_cases (K s.1) with z | z | z | z | z <;> rw [z] at q ⊢
        · have : bds 0 = 9 := rfl
          omega
        all_goals decide
      have hsN : s.1 < N := by
        rcases Nat.lt_or_ge s.1 N with z | z
        · exact z
        · have : s.1 = N := by have := G.2.1; omega
          rw [this, hK] at ho; exact absurd ho.1 (by decide)
      have e0 : mstep K V ts (3, s.1, σ ++ p, c1, n1, s.2.2.2, 8 - n, false) = (1, s.1 + 1, (arO (K s.1), 0) :: p, c', n', s.2.2.2, 8 - n, false) := by
        show mSum K ts s.1 (σ ++ p) c1 n1 s.2.2.2 (8 - n) = _
        unfold mSum
        rw [if_pos (by omega), q, hst]
      have R1 := R.next e0
      have S := hsub (tkS s) ((arO (K s.1), 0) :: p) c' n' hsN (fun x t e => by injection e with e1 e2; rw [← e1]; show bds (arO (K s.1)) < L + 1; omega)
      obtain ⟨S1, S2, S3⟩ := S
      have G1 := (G.trans (Gw.tk hsN)).trans S1
      by_cases ok : (sub (tkS s)).1 = true
      · rw [if_pos ok]
        obtain ⟨y1, y2, σ2, c2, n2, c'', n'', v2, r1, r2, r3, X2, hv2⟩ := S3 ok
        have r1 := R1.trans r1
        obtain ⟨x1, x2, x3, x4, x5, x6, x7, x8⟩ := X
        obtain ⟨z1, z2, z3, z4, z5, z6, z7, z8⟩ := X2
        have y1 : s.1 + 1 < (sub (tkS s)).2.1 := y1
        have z3 : n'' + (s.1 + 1) ≤ n' + (sub (tkS s)).2.1 := z3
        obtain ⟨g1, g2, g3, g4, g5, g6⟩ := S1
        have g3 : (sub (tkS s)).2.2.2.1 + (s.1 + 1) ≤ s.2.2.1 + (sub (tkS s)).2.1 := g3
        have g4 : s.2.2.1 ≤ (sub (tkS s)).2.2.2.1 := g4
        have k3 := G.2.2.1
        have k4 := G.2.2.2.1
        refine ih (adS (arO (K s.1) - 15) 0 (sub (tkS s)).2) s0 p c nc (σ2 ++ [(arO (K s.1), 0)]) c2 n2 (upC c'' n'' (arO (K s.1), 0)) (n'' + 1) (vBin (arO (K s.1) - 15) v v2) ?_ ht ?_ ?_ y2 ?_ ?_ ?_ ?_ (VOk.bin _ _ _)
        · show N < (sub (tkS s)).2.1 + f; omega
        · exact G1.ad (by omega)
        · show s0.1 < (sub (tkS s)).2.1; omega
        · rw [List.append_assoc]; exact r1
        · intro x hx
          rcases List.mem_append.mp hx with z | z
          · exact r2 x z
          · rw [List.mem_singleton] at z; rw [z]; exact ho
        · rw [List.append_assoc, List.singleton_append, stl_to (Nat.le_succ L) r3, stl, if_pos (by show L ≤ bds (arO (K s.1)); omega), if_neg (by show ¬ (arO (K s.1) = 28 ∨ arO (K s.1) = 29); omega)]
          exact stl_stop ht _ _
        · refine ⟨fun y hy => ?_, by omega, by show n'' + 1 + s0.1 ≤ nc + (sub (tkS s)).2.1; omega, by show s0.2.2.1 < (sub (tkS s)).2.2.2.1 + 1; omega, ?_, ?_, ?_, ?_⟩
          · rw [upC_off _ _ (by omega), z1 y (by omega)]; exact x1 y hy
          · refine Seg.bin (p := s.2.2.1) (w := 0) (need := need) (x5.cong fun y h1 h2 => ?_) (z5.cong fun y h1 h2 => ?_) (upC_self _ _ _) (by omega) hneed
            · show upC _ _ _ y = _
              rw [upC_off _ _ (by omega)]; exact g5 y h2
            · show upC _ _ _ y = _
              rw [upC_off _ _ (by omega)]
          · refine Seg.bin (p := n') (need := need) (x6.cong fun y h1 h2 => ?_) (z6.cong fun y h1 h2 => ?_) (cdR_op _ _ ho.1 (by omega)) (by omega) hneed
            · refine cdR_cong ?_
              rw [upC_off _ _ (by omega)]; exact z1 y h2
            · exact cdR_cong (upC_off _ _ (by omega))
          · intro y h1 h2
            have h2 : y < (sub (tkS s)).2.2.2.1 + 1 := h2
            show (upC _ _ _ y).1 < 12 ∧ (upC _ _ _ y).2 < 4096 ∧ ((upC _ _ _ y).1 = 1 → (upC _ _ _ y).2 < 10)
            by_cases e : y = (sub (tkS s)).2.2.2.1
            · rw [e, upC_self]; exact ⟨by show arO (K s.1) - 15 < 12; omega, by show 0 < 4096; omega, fun _ => by show 0 < 10; omega⟩
            · rw [upC_off _ _ e]
              rcases Nat.lt_or_ge y s.2.2.1 with z | z
              · rw [g5 y z]; exact x7 y h1 z
              · exact z7 y z (by omega)
          · intro y h1 h2
            by_cases e : y = n''
            · rw [e, upC_self]; exact ⟨Or.inr ⟨ho.1, by show arO (K s.1) ≤ 29; omega⟩, by show 0 < 4096; omega, fun h => by have h : 27 < arO (K s.1) := h; omega⟩
            · rw [upC_off _ _ e]
              rcases Nat.lt_or_ge y n' with z | z
              · rw [z1 y z]; exact x8 y h1 z
              · exact z8 y z (by omega)
      · rw [if_neg ok]
        have nok : (sub (tkS s)).1 = false := by cases hh : (sub (tkS s)).1 with
          | true => exact absurd hh ok
          | false => rfl
        obtain ⟨tn, p', c3, n3, lv', op', r1⟩ := S2 nok
        exact ⟨G1, fun _ => ⟨tn, p', c3, n3, lv', op', R1.trans r1⟩, fun h => (Bool.noConfusion h)⟩
    · rw [if_neg q]
      refine ⟨G, fun h => (Bool.noConfusion h), fun _ => ⟨hlt, fun l h1 h2 => ?_, σ, c1, n1, c', n', v, R, hσ, hst, X, hv⟩⟩
      rcases Nat.lt_or_ge L l with z | z
      · exact hx l z h2
      · rw [show l = L by omega]; exact q
theorem plv_sim {L need n : Nat} {sub : PS → Bool × PS} (hN : N ≤ 400) (hK : K N = 20) (h5 : L = 5 ∨ L = 6) (hsub : SimX K V N ts (L + 1) need n sub) (hneed : 2 ≤ need) : SimX K V N ts L (need + 1) n (plv K L sub) := by
  intro s p c nc hs ht
  obtain ⟨S1, S2, S3⟩ := hsub s p c nc hs (fun x t e => by have := ht x t e; omega)
  unfold plv
  by_cases ok : (sub s).1 = true
  · rw [if_pos ok]
    obtain ⟨y1, y2, σ, c1, n1, c', n', v, r1, r2, r3, X, hv⟩ := S3 ok
    obtain ⟨x1, x2, x3, x4, x5, x6, x7, x8⟩ := X
    refine plp_sim hK h5 hsub hneed 400 (sub s).2 s p c nc σ c1 n1 c' n' v (by omega) ht S1 y1 y2 r1 r2 ?_ ⟨x1, x2, x3, x4, x5.wide (by omega), x6.wide (by omega), x7, x8⟩ hv
    rw [stl_to (Nat.le_succ L) r3]; exact stl_stop ht _ _
  · rw [if_neg ok]
    have nok : (sub s).1 = false := by cases hh : (sub s).1 with
      | true => exact absurd hh ok
      | false => rfl
    exact ⟨S1, fun _ => S2 nok, fun h => (Bool.noConfusion h)⟩
theorem sum_of {n need : Nat} (hN : N ≤ 400) (hK : K N = 20) (hp : SimX K V N ts 7 need n (pPc K V n)) (hn : 2 ≤ need) : SimX K V N ts 5 (need + 2) n (pSm K V n) :=
  plv_sim hN hK (Or.inl rfl) (plv_sim hN hK (Or.inr rfl) hp hn) (by omega)
theorem arO_0 {k : Nat} (h : ∀ l, 5 ≤ l → l ≤ 6 → bds (arO k) ≠ l) : arO k = 0 := by
  rcases arO_cases k with z | z | z | z | z
  · exact z
  all_goals (rw [z] at h; first | exact absurd rfl (h 5 (by omega) (by omega)) | exact absurd rfl (h 6 (by omega) (by omega)))
theorem top0 {o a L : Nat} {p : Pl} (h : bds o < L) : ∀ x t, (o, a) :: p = x :: t → bds x.1 < L := fun x t e => by injection e with e1 e2; rw [← e1]; exact h
theorem piece_sim (hN : N ≤ 400) (hK : K N = 20) (hV : ∀ i, K i = 18 → V i ≤ 1000) : ∀ n, n ≤ 8 → SimX K V N ts 7 (2 + 2 * n) n (pPc K V n) := by
  intro n
  induction n with
  | zero =>
    intro _ s p c nc hs ht
    show SxR K V N ts 7 2 0 s p c nc (if K s.1 = 191 then (false, s) else pLf K V s)
    by_cases q : K s.1 = 191
    · rw [if_pos q]
      have e0 : mstep K V ts (1, s.1, p, c, nc, s.2.2.2, 8 - 0, false) = (1, s.1, p, c, nc, s.2.2.2, 8, true) := by
        show mPart K V s.1 p c nc s.2.2.2 8 = _
        unfold mPart
        rw [if_pos q, if_neg (by omega)]
      exact ⟨Gw.refl hs, fun _ => ⟨_, _, _, _, _, _, (Rch.refl _).next e0⟩, fun h => (Bool.noConfusion h)⟩
    · rw [if_neg q]; exact leaf_sim hK hV hs ht q
  | succ n ih =>
    intro hn s p c nc hs ht
    show SxR K V N ts 7 (2 + 2 * (n + 1)) (n + 1) s p c nc (if K s.1 = 191 then pBr K 193 (pSm K V n (tkS s)) else pLf K V s)
    by_cases q : K s.1 = 191
    · rw [if_pos q]
      have hsN : s.1 < N := by
        rcases Nat.lt_or_ge s.1 N with z | z
        · exact z
        · have : s.1 = N := by omega
          rw [this, hK] at q; cases q
      have e0 : mstep K V ts (1, s.1, p, c, nc, s.2.2.2, 8 - (n + 1), false) = (1, s.1 + 1, (31, 0) :: p, c, nc, s.2.2.2, 8 - n, false) := by
        show mPart K V s.1 p c nc s.2.2.2 (8 - (n + 1)) = _
        unfold mPart
        rw [if_pos q, if_pos (by omega), show 8 - (n + 1) + 1 = 8 - n by omega]
      have S := sum_of hN hK (ih (by omega)) (by omega) (tkS s) ((31, 0) :: p) c nc hsN (top0 (by decide))
      generalize pSm K V n (tkS s) = r at S
      obtain ⟨S1, S2, S3⟩ := S
      have G1 := (Gw.tk hsN).trans S1
      unfold pBr
      by_cases ok : r.1 = true
      · obtain ⟨y1, y2, σ, c1, n1, c', n', v, r1, r2, r3, X, hv⟩ := S3 ok
        have y1 : s.1 + 1 < r.2.1 := y1
        have a0 := arO_0 y2
        have hin : inn (σ ++ (31, 0) :: p) = 31 := by rw [inn_app fun x hx => by have := r2 x hx; omega]; rfl
        by_cases z : K r.2.1 = 193
        · rw [if_pos ⟨ok, z⟩]
          have hrN : r.2.1 < N := by
            rcases Nat.lt_or_ge r.2.1 N with w | w
            · exact w
            · have : r.2.1 = N := by have := S1.2.1; omega
              rw [this, hK] at z; cases z
          have e1 : mstep K V ts (3, r.2.1, σ ++ (31, 0) :: p, c1, n1, r.2.2.2.2, 8 - n, false) = (3, r.2.1 + 1, p, c', n', r.2.2.2.2, 8 - (n + 1), false) := by
            show mSum K ts r.2.1 (σ ++ (31, 0) :: p) c1 n1 r.2.2.2.2 (8 - n) = _
            unfold mSum
            rw [if_neg (by rw [a0]; exact fun h => h rfl), if_pos hin, if_pos z, r3, if_neg (show ¬ (8 - n = 0 ∨ _ :: _ = ([] : Pl)) from fun q => q.elim (fun y => absurd y (by omega)) (fun y => absurd y (List.cons_ne_nil _ _))), show 8 - n - 1 = 8 - (n + 1) by omega]; rfl
          obtain ⟨x1, x2, x3, x4, x5, x6, x7, x8⟩ := X
          have x3 : n' + (s.1 + 1) ≤ nc + r.2.1 := x3
          refine ⟨G1.trans (Gw.tk hrN), fun h => (Bool.noConfusion h), fun _ => ⟨by show s.1 < r.2.1 + 1; omega, fun l h1 h2 => by omega, [], c', n', c', n', v, ((Rch.refl _).next e0).trans (r1.next e1), fun x hx => absurd hx List.not_mem_nil, stl_stop ht _ _, ⟨x1, x2, by show n' + s.1 ≤ nc + (r.2.1 + 1); omega, x4, x5, x6, x7, x8⟩, hv⟩⟩
        · rw [if_neg (fun h => z h.2)]
          have e1 : mstep K V ts (3, r.2.1, σ ++ (31, 0) :: p, c1, n1, r.2.2.2.2, 8 - n, false) = (3, r.2.1, σ ++ (31, 0) :: p, c1, n1, r.2.2.2.2, 8 - n, true) := by
            show mSum K ts r.2.1 (σ ++ (31, 0) :: p) c1 n1 r.2.2.2.2 (8 - n) = _
            unfold mSum
            rw [if_neg (by rw [a0]; exact fun h => h rfl), if_pos hin, if_neg z]
          exact ⟨G1, fun _ => ⟨_, _, _, _, _, _, ((Rch.refl _).next e0).trans (r1.next e1)⟩, fun h => (Bool.noConfusion h)⟩
      · rw [if_neg (fun h => ok h.1)]
        have nok : r.1 = false := by cases hh : r.1 with
          | true => exact absurd hh ok
          | false => rfl
        obtain ⟨tn, p', c3, n3, lv', op', r1⟩ := S2 nok
        exact ⟨G1, fun _ => ⟨tn, p', c3, n3, lv', op', ((Rch.refl _).next e0).trans r1⟩, fun h => (Bool.noConfusion h)⟩
    · rw [if_neg q]
      obtain ⟨S1, S2, S3⟩ := leaf_sim (ts := ts) (n := n + 1) (p := p) (c := c) (nc := nc) hK hV hs ht q
      refine ⟨S1, S2, fun h => ?_⟩
      obtain ⟨y1, y2, σ, c1, n1, c', n', v, r1, r2, r3, ⟨x1, x2, x3, x4, x5, x6, x7, x8⟩, hv⟩ := S3 h
      exact ⟨y1, y2, σ, c1, n1, c', n', v, r1, r2, r3, ⟨x1, x2, x3, x4, x5.wide (by omega), x6.wide (by omega), x7, x8⟩, hv⟩
theorem sum_sim (hN : N ≤ 400) (hK : K N = 20) (hV : ∀ i, K i = 18 → V i ≤ 1000) {n : Nat} (hn : n ≤ 8) : SimX K V N ts 5 20 n (pSm K V n) := by
  intro s p c nc hs ht
  obtain ⟨S1, S2, S3⟩ := sum_of (ts := ts) hN hK (piece_sim hN hK hV n hn) (by omega) s p c nc hs ht
  refine ⟨S1, S2, fun h => ?_⟩
  obtain ⟨y1, y2, σ, c1, n1, c', n', v, r1, r2, r3, ⟨x1, x2, x3, x4, x5, x6, x7, x8⟩, hv⟩ := S3 h
  exact ⟨y1, y2, σ, c1, n1, c', n', v, r1, r2, r3, ⟨x1, x2, x3, x4, x5.wide (by omega), x6.wide (by omega), x7, x8⟩, hv⟩
end SUMS
