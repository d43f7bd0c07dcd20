/-! TOKENS of n bytes B -/
def srt (c : Nat) : Nat := if 97 ≤ c ∧ c ≤ 122 then 19 else if 48 ≤ c ∧ c ≤ 57 then 18 else 100
def skp (B : Nat → Nat) (n : Nat) : Nat → Nat → Nat
  | 0, p => p
  | f + 1, p => if p < n ∧ B p = 32 then skp B n f (p + 1) else p
def skA (B : Nat → Nat) (n p : Nat) : Nat := skp B n (n - p) p
def rne (B : Nat → Nat) (n s : Nat) : Nat → Nat → Nat
  | 0, q => q
  | f + 1, q => if q < n ∧ srt (B q) = s then rne B n s f (q + 1) else q
def rnA (B : Nat → Nat) (n s q : Nat) : Nat := rne B n s (n - q) q
def tEn (B : Nat → Nat) (n p : Nat) : Nat := if n ≤ p then p else if srt (B p) = 100 then p + 1 else rnA B n (srt (B p)) (p + 1)
def tS (B : Nat → Nat) (n : Nat) : Nat → Nat
  | 0 => skA B n 0
  | i + 1 => skA B n (tEn B n (tS B n i))
def lts (B : Nat → Nat) (p : Nat) : Nat → List Nat
  | 0 => []
  | k + 1 => (B (p + k) - 96) :: lts B p k
def cod : List Nat → Nat
  | [] => 0
  | x :: t => cod t * 32 + x
def dvl (B : Nat → Nat) (p : Nat) : Nat → Nat
  | 0 => 0
  | k + 1 => dvl B p k * 10 + (B (p + k) - 48)
def cds : List Nat := [114292, 6328499, 67155, 398995, 294, 498, 1476, 14836, 1167858, 525908, 273980692, 113716, 24282707, 23569509, 638407, 12009203, 22664236, 758955]
def fdC : List Nat → Nat → Nat → Nat
  | [], _, _ => 19
  | c :: t, k, x => if x = c then k else fdC t (k + 1) x
def wK (x : Nat) : Nat := fdC cds 0 x
def kdP (B : Nat → Nat) (n p : Nat) : Nat := if n ≤ p then 20 else if srt (B p) = 100 then 100 + B p else if srt (B p) = 18 then (if dvl B p (tEn B n p - p) ≤ 1000 then 18 else 19) else wK (cod (lts B p (tEn B n p - p)))
def tK (B : Nat → Nat) (n i : Nat) : Nat := kdP B n (tS B n i)
def tV (B : Nat → Nat) (n i : Nat) : Nat := if dvl B (tS B n i) (tEn B n (tS B n i) - tS B n i) ≤ 1000 then dvl B (tS B n i) (tEn B n (tS B n i) - tS B n i) else 0
section TOK
variable {B : Nat → Nat} {n : Nat}
theorem srt_cases (c : Nat) : srt c = 19 ∨ srt c = 18 ∨ srt c = 100 := by
  unfold srt; repeat' split
  all_goals simp
theorem srt_l (c : Nat) : srt c = 19 ↔ 97 ≤ c ∧ c ≤ 122 := by
  unfold srt; repeat' split
  all_goals simp_all
theorem srt_d (c : Nat) : srt c = 18 ↔ 48 ≤ c ∧ c ≤ 57 := by
  unfold srt; repeat' split
  all_goals first | simp_all | skip
  all_goals omega
theorem skA_step {p : Nat} (h : p < n) (hb : B p = 32) : skA B n p = skA B n (p + 1) := by
  unfold skA
  rw [show n - p = (n - (p + 1)) + 1 by omega, skp, if_pos ⟨h, hb⟩]
theorem skA_stop {p : Nat} (h : ¬ (p < n ∧ B p = 32)) : skA B n p = p := by
  unfold skA
  cases e : n - p with
  | zero => rfl
  | succ f => rw [skp, if_neg h]
theorem rnA_step {s p : Nat} (h : p < n) (hb : srt (B p) = s) : rnA B n s p = rnA B n s (p + 1) := by
  unfold rnA
  rw [show n - p = (n - (p + 1)) + 1 by omega, rne, if_pos ⟨h, hb⟩]
theorem rnA_stop {s p : Nat} (h : ¬ (p < n ∧ srt (B p) = s)) : rnA B n s p = p := by
  unfold rnA
  cases e : n - p with
  | zero => rfl
  | succ f => rw [rne, if_neg h]
theorem skp_bd : ∀ (f p : Nat), p ≤ n → n ≤ p + f → p ≤ skp B n f p ∧ skp B n f p ≤ n ∧ (skp B n f p < n → B (skp B n f p) ≠ 32)
  | 0, p, h, h2 => ⟨Nat.le_refl _, h, fun z => by have z : p < n := z; omega⟩
  | f + 1, p, h, h2 => by
    rw [skp]
    by_cases q : p < n ∧ B p = 32
    · rw [if_pos q]
      obtain ⟨a, b, c⟩ := skp_bd f (p + 1) q.1 (by omega)
      exact ⟨by omega, b, c⟩
    · rw [if_neg q]
      exact ⟨Nat.le_refl _, h, fun z e => q ⟨z, e⟩⟩
theorem skA_bd {p : Nat} (h : p ≤ n) : p ≤ skA B n p ∧ skA B n p ≤ n ∧ (skA B n p < n → B (skA B n p) ≠ 32) := skp_bd (n - p) p h (by omega)
theorem rne_bd {s : Nat} : ∀ (f p : Nat), p ≤ n → n ≤ p + f → p ≤ rne B n s f p ∧ rne B n s f p ≤ n ∧ ∀ j, p ≤ j → j < rne B n s f p → srt (B j) = s
  | 0, p, h, _ => ⟨Nat.le_refl _, h, fun j h1 h2 => by have h2 : j < p := h2; omega⟩
  | f + 1, p, h, h2 => by
    rw [rne]
    by_cases q : p < n ∧ srt (B p) = s
    · rw [if_pos q]
      obtain ⟨a, b, c⟩ := rne_bd (s := s) f (p + 1) q.1 (by omega)
      refine ⟨by omega, b, fun j h3 h4 => ?_⟩
      rcases Nat.lt_or_ge p j with z | z
      · exact c j z h4
      · rw [show j = p by omega]; exact q.2
    · rw [if_neg q]
      exact ⟨Nat.le_refl _, h, fun j h1 h2 => by omega⟩
theorem rnA_bd {s p : Nat} (h : p ≤ n) : p ≤ rnA B n s p ∧ rnA B n s p ≤ n ∧ ∀ j, p ≤ j → j < rnA B n s p → srt (B j) = s := rne_bd (n - p) p h (by omega)
theorem tEn_bd {p : Nat} (h : p < n) : p < tEn B n p ∧ tEn B n p ≤ n := by
  unfold tEn
  rw [if_neg (by omega)]
  split
  · omega
  · have := rnA_bd (B := B) (s := srt (B p)) (show p + 1 ≤ n from h); omega
theorem tEn_n : tEn B n n = n := by unfold tEn; rw [if_pos (Nat.le_refl _)]
theorem tS_bd (i : Nat) : tS B n i ≤ n ∧ (tS B n i < n → B (tS B n i) ≠ 32) := by
  induction i with
  | zero => have := skA_bd (B := B) (Nat.zero_le n); exact this.2
  | succ i ih =>
    have e : tEn B n (tS B n i) ≤ n := by
      rcases Nat.lt_or_ge (tS B n i) n with z | z
      · exact (tEn_bd z).2
      · rw [show tS B n i = n by omega, tEn_n]; exact Nat.le_refl _
    exact (skA_bd e).2
theorem tS_n {i j : Nat} (h : tS B n i = n) (hij : i ≤ j) : tS B n j = n := by
  obtain ⟨k, rfl⟩ : ∃ k, j = i + k := ⟨j - i, by omega⟩
  clear hij
  induction k with
  | zero => exact h
  | succ k ih =>
    show skA B n (tEn B n (tS B n (i + k))) = n
    rw [ih, tEn_n]; exact skA_stop (by omega)
theorem tS_up {i : Nat} (h : tS B n i < n) : tS B n i < tS B n (i + 1) := by
  have a := tEn_bd (B := B) h
  have b := skA_bd (B := B) a.2
  show _ < skA B n (tEn B n (tS B n i))
  omega
theorem tS_ge : ∀ (i : Nat), tS B n i < n → i ≤ tS B n i
  | 0, _ => Nat.zero_le _
  | i + 1, h => by
    rcases Nat.lt_or_ge (tS B n i) n with z | z
    · have := tS_ge i z
      have := tS_up z
      omega
    · have := tS_n (B := B) (n := n) (i := i) (j := i + 1) (by have := (tS_bd (B := B) (n := n) i).1; omega) (by omega)
      omega
/-! words -/
def LtO (L : List Nat) : Prop := ∀ x ∈ L, 1 ≤ x ∧ x < 32
theorem cod_inj : ∀ (L M : List Nat), LtO L → LtO M → cod L = cod M → L = M
  | [], [], _, _, _ => rfl
  | [], y :: M, _, hM, h => by
    have := hM y List.mem_cons_self
    have h : 0 = cod M * 32 + y := h
    omega
  | x :: L, [], hL, _, h => by
    have := hL x List.mem_cons_self
    have h : cod L * 32 + x = 0 := h
    omega
  | x :: L, y :: M, hL, hM, h => by
    have h1 := hL x List.mem_cons_self
    have h2 := hM y List.mem_cons_self
    have h : cod L * 32 + x = cod M * 32 + y := h
    have : cod L = cod M := by omega
    rw [cod_inj L M (fun z hz => hL z (List.mem_cons_of_mem _ hz)) (fun z hz => hM z (List.mem_cons_of_mem _ hz)) this, show x = y by omega]
theorem lts_len (p : Nat) : ∀ k, (lts B p k).length = k
  | 0 => rfl
  | k + 1 => by rw [lts, List.length_cons, lts_len p k]
theorem lts_ok {p : Nat} : ∀ {k : Nat}, (∀ j, j < k → 97 ≤ B (p + j) ∧ B (p + j) ≤ 122) → LtO (lts B p k)
  | 0, _ => fun x hx => absurd hx List.not_mem_nil
  | k + 1, h => fun x hx => by
    rcases List.mem_cons.mp hx with e | e
    · rw [e]; have := h k (by omega); omega
    · exact lts_ok (fun j hj => h j (by omega)) x e
theorem lts_eq {A : Nat → Nat} {p q : Nat} : ∀ {k : Nat}, (∀ j, j < k → 97 ≤ B (p + j)) → (∀ j, j < k → 97 ≤ A (q + j)) → (lts B p k = lts A q k ↔ ∀ j, j < k → A (q + j) = B (p + j))
  | 0, _, _ => ⟨fun _ j hj => by omega, fun _ => rfl⟩
  | k + 1, h1, h2 => by
    have ih := lts_eq (k := k) (fun j hj => h1 j (by omega)) (fun j hj => h2 j (by omega))
    rw [lts, lts, List.cons.injEq, ih]
    have a := h1 k (by omega)
    have b := h2 k (by omega)
    refine ⟨fun q j hj => ?_, fun q => ⟨by rw [q k (by omega)], fun j hj => q j (by omega)⟩⟩
    rcases Nat.lt_or_ge j k with z | z
    · exact q.2 j z
    · rw [show j = k by omega]; omega
def wLn : List Nat := [4, 5, 4, 4, 2, 2, 3, 3, 5, 4, 6, 4, 5, 5, 4, 5, 5, 4]
def wsN (i : Nat) : Nat := wsB.getD i 0
theorem ws_tab : ∀ k, k < 18 → wLn.getD k 0 ≤ 6 ∧ cds.getD k 0 = cod (lts wsN (7 * k) (wLn.getD k 0)) ∧ ∀ j, j < 7 → (j < wLn.getD k 0 → 97 ≤ wsN (7 * k + j) ∧ wsN (7 * k + j) ≤ 122) ∧ (wLn.getD k 0 ≤ j → wsN (7 * k + j) = 32) := by decide
/-- a word of m letters is the k-th -/
theorem word_is {p m k : Nat} (hk : k < 18) (hm : m < 7) (hB : ∀ j, j < m → 97 ≤ B (p + j) ∧ B (p + j) ≤ 122) : ((∀ j, j < m → wsN (7 * k + j) = B (p + j)) ∧ wsN (7 * k + m) = 32) ↔ cod (lts B p m) = cds.getD k 0 := by
  obtain ⟨t1, t2, t3⟩ := ws_tab k hk
  rw [t2]
  constructor
  · intro ⟨h1, h2⟩
    have e : m = wLn.getD k 0 := by
      rcases Nat.lt_trichotomy m (wLn.getD k 0) with z | z | z
      · have := (t3 m hm).1 z; omega
      · exact z
      · have a := (t3 (wLn.getD k 0) (by omega)).2 (Nat.le_refl _)
        rw [h1 _ z] at a
        have := hB _ z; omega
    rw [← e]
    congr 1
    exact (lts_eq (fun j hj => (hB j hj).1) (fun j hj => ((t3 j (by omega)).1 (by omega)).1)).mpr h1
  · intro h
    have e := cod_inj _ _ (lts_ok hB) (lts_ok fun j hj => (t3 j (by omega)).1 hj) h
    have el : m = wLn.getD k 0 := by
      have := congrArg List.length e
      rw [lts_len, lts_len] at this; exact this
    rw [← el] at e
    exact ⟨(lts_eq (fun j hj => (hB j hj).1) (fun j hj => ((t3 j (by omega)).1 (by omega)).1)).mp e, (t3 m hm).2 (by omega)⟩
theorem cod_ge {p : Nat} : ∀ {m : Nat}, (∀ j, j < m + 1 → 97 ≤ B (p + j) ∧ B (p + j) ≤ 122) → 32 ^ m ≤ cod (lts B p (m + 1))
  | 0, h => by
    have := h 0 (by omega)
    show 1 ≤ 0 * 32 + (B (p + 0) - 96)
    omega
  | m + 1, h => by
    have := cod_ge (m := m) (fun j hj => h j (by omega))
    have e : cod (lts B p (m + 1 + 1)) = cod (lts B p (m + 1)) * 32 + (B (p + (m + 1)) - 96) := rfl
    rw [e, Nat.pow_succ]; omega
theorem fdC_spec : ∀ (L : List Nat) (k x : Nat), fdC L k x = 19 ∨ ∃ j, j < L.length ∧ fdC L k x = k + j ∧ L.getD j 0 = x
  | [], k, x => Or.inl rfl
  | c :: t, k, x => by
    rw [fdC]
    by_cases q : x = c
    · rw [if_pos q]; exact Or.inr ⟨0, Nat.zero_lt_succ _, rfl, q.symm⟩
    · rw [if_neg q]
      rcases fdC_spec t (k + 1) x with z | ⟨j, z1, z2, z3⟩
      · exact Or.inl z
      · exact Or.inr ⟨j + 1, Nat.succ_lt_succ z1, by rw [z2]; omega, z3⟩
theorem wK_of {x k : Nat} (hk : k < 18) : wK x = k ↔ x = cds.getD k 0 := by
  have t : ∀ k, k < 18 → wK (cds.getD k 0) = k := by decide
  refine ⟨fun h => ?_, fun h => by rw [h]; exact t k hk⟩
  rcases fdC_spec cds 0 x with z | ⟨j, z1, z2, z3⟩
  · have z : wK x = 19 := z
    omega
  · have z2 : wK x = 0 + j := z2
    rw [← z3]; congr 1; omega
theorem wK_lt (x : Nat) : wK x < 18 ∨ wK x = 19 := by
  rcases fdC_spec cds 0 x with z | ⟨j, z1, z2, z3⟩
  · exact Or.inr z
  · have z2 : wK x = 0 + j := z2
    have z1 : j < 18 := z1
    exact Or.inl (by omega)
theorem wK_big {x : Nat} (h : 300000000 ≤ x) : wK x = 19 := by
  rcases wK_lt x with z | z
  · have := (wK_of z).mp rfl
    have t : ∀ k, k < 18 → cds.getD k 0 < 300000000 := by decide
    have := t _ z
    omega
  · exact z
/-! kinds -/
theorem letters {p : Nat} (hp : p < n) (hs : srt (B p) = 19) : ∀ j, j < tEn B n p - p → 97 ≤ B (p + j) ∧ B (p + j) ≤ 122 := by
  intro j hj
  have e : tEn B n p = rnA B n 19 (p + 1) := by unfold tEn; rw [if_neg (by omega), if_neg (by omega), hs]
  rw [e] at hj
  obtain ⟨a, b, c⟩ := rnA_bd (B := B) (s := 19) (show p + 1 ≤ n from hp)
  cases j with
  | zero => exact (srt_l _).mp hs
  | succ j => exact (srt_l _).mp (c (p + (j + 1)) (by omega) (by omega))
theorem digits {p : Nat} (hp : p < n) (hs : srt (B p) = 18) : ∀ j, j < tEn B n p - p → 48 ≤ B (p + j) ∧ B (p + j) ≤ 57 := by
  intro j hj
  have e : tEn B n p = rnA B n 18 (p + 1) := by unfold tEn; rw [if_neg (by omega), if_neg (by omega), hs]
  rw [e] at hj
  obtain ⟨a, b, c⟩ := rnA_bd (B := B) (s := 18) (show p + 1 ≤ n from hp)
  cases j with
  | zero => exact (srt_d _).mp hs
  | succ j => exact (srt_d _).mp (c (p + (j + 1)) (by omega) (by omega))
theorem kdP_20 {p : Nat} : kdP B n p = 20 ↔ n ≤ p := by
  unfold kdP
  split
  · simp_all
  · split
    · omega
    · split
      · split <;> simp <;> omega
      · have := wK_lt (cod (lts B p (tEn B n p - p))); omega
theorem kdP_lt (hB : ∀ j, j < n → B j < 256) {p : Nat} : kdP B n p < 356 := by
  unfold kdP
  split
  · omega
  · split
    · have := hB p (by omega); omega
    · split
      · split <;> omega
      · have := wK_lt (cod (lts B p (tEn B n p - p))); omega
theorem tV_le (i : Nat) : tV B n i ≤ 1000 := by unfold tV; split <;> omega
end TOK
