/-! bits of nI -/
theorem nx_and (a b : Nat) : nI a &&& nI b = nI (a &&& b) := by
  apply Int32.toBitVec_inj.1
  show BitVec.ofNat 32 a &&& BitVec.ofNat 32 b = BitVec.ofNat 32 (a &&& b)
  apply BitVec.eq_of_getLsbD_eq
  intro i hi
  simp [hi]
theorem nx_or (a b : Nat) : nI a ||| nI b = nI (a ||| b) := by
  apply Int32.toBitVec_inj.1
  show BitVec.ofNat 32 a ||| BitVec.ofNat 32 b = BitVec.ofNat 32 (a ||| b)
  apply BitVec.eq_of_getLsbD_eq
  intro i hi
  simp [hi]
theorem nx_xor (a b : Nat) : nI a ^^^ nI b = nI (a ^^^ b) := by
  apply Int32.toBitVec_inj.1
  show BitVec.ofNat 32 a ^^^ BitVec.ofNat 32 b = BitVec.ofNat 32 (a ^^^ b)
  apply BitVec.eq_of_getLsbD_eq
  intro i hi
  simp [hi]
theorem s_l : ∀ n, n < 32 → ((nI n &&& 31).toBitVec.smod 32).toNat = n := by decide +kernel
theorem nb_sh {k : Nat} (hk : k < 32) : (1 : Int32) <<< (nI k &&& 31) = nI (2 ^ k) := by
  have := pk_shlN (n := 1) (nI k &&& 31) k (s_l k hk) (by rw [Nat.one_mul]; exact Nat.pow_lt_pow_right (by decide) hk)
  rw [Nat.one_mul] at this
  exact this
theorem nb_shr {x k : Nat} (hx : x < 2 ^ 31) (hk : k < 32) : nI x >>> (nI k &&& 31) = nI (x / 2 ^ k) := pk_shrN hx _ k (s_l k hk)
theorem nb_and1 {x : Nat} (hx : x < 2 ^ 32) : nI x &&& 1 = nI (x % 2) := pk_andN hx 1 (by decide)
theorem nb_b {x k : Nat} (hx : x < 2 ^ 31) (hk : k < 32) : nI x >>> (nI k &&& 31) &&& 1 = bI (x.testBit k = true) := by
  rw [nb_shr hx hk, nb_and1 (Nat.lt_of_le_of_lt (Nat.div_le_self _ _) (by omega)), bI]
  rw [Nat.testBit, Nat.one_and_eq_mod_two, Nat.shiftRight_eq_div_pow]
  rcases Nat.mod_two_eq_zero_or_one (x / 2 ^ k) with e | e <;> rw [e] <;> rfl
theorem nb_t {x k : Nat} (hx : x < 2 ^ 31) (hk : k < 32) : (nI x >>> (nI k &&& 31) &&& 1 = 1) ↔ x.testBit k = true := by
  rw [nb_b hx hk, bI_eq1]
theorem nb_f {x k : Nat} (hx : x < 2 ^ 31) (hk : k < 32) : (nI x >>> (nI k &&& 31) &&& 1 = 0) ↔ x.testBit k = false := by
  rw [nb_b hx hk, bI_eq0]; simp
/-- the set of the k below n with P -/
def bitsB (P : Nat → Bool) : Nat → Nat
  | 0 => 0
  | n + 1 => bitsB P n ||| (if P n = true then 2 ^ n else 0)
theorem bitsB_lt (P : Nat → Bool) : ∀ n, bitsB P n < 2 ^ n
  | 0 => Nat.one_pos
  | n + 1 => by
    have h1 := bitsB_lt P n
    have h2 : 2 ^ n < 2 ^ (n + 1) := Nat.pow_lt_pow_right (by decide) (by omega)
    rw [bitsB]
    refine Nat.or_lt_two_pow (by omega) ?_
    split <;> omega
theorem bitsB_tb (P : Nat → Bool) : ∀ (n i : Nat), (bitsB P n).testBit i = (decide (i < n) && P i)
  | 0, i => by simp [bitsB]
  | n + 1, i => by
    rw [bitsB, Nat.testBit_or, bitsB_tb P n i]
    by_cases e : i = n
    · subst e
      by_cases hp : P i = true
      · rw [if_pos hp, Nat.testBit_two_pow_self]; simp [hp]
      · rw [if_neg hp]; simp at hp; simp [hp]
    · have : (if P n = true then 2 ^ n else 0).testBit i = false := by
        split
        · rw [Nat.testBit_two_pow]; simp; omega
        · simp
      rw [this, Bool.or_false]
      by_cases h : i < n
      · simp [h, show i < n + 1 by omega]
      · simp [h, show ¬ i < n + 1 by omega]
theorem bitsB_cong {P P' : Nat → Bool} : ∀ {n : Nat}, (∀ i, i < n → P i = P' i) → bitsB P n = bitsB P' n
  | 0, _ => rfl
  | n + 1, h => by rw [bitsB, bitsB, bitsB_cong (fun i hi => h i (by omega)), h n (by omega)]
theorem bitsB_s {P : Nat → Bool} {n : Nat} (h : P n = true) : bitsB P (n + 1) = bitsB P n ||| 2 ^ n := by rw [bitsB, if_pos h]
theorem bitsB_n {P : Nat → Bool} {n : Nat} (h : ¬ P n = true) : bitsB P (n + 1) = bitsB P n := by rw [bitsB, if_neg h]; simp
/-! the castings' cells -/
section CC
variable {h : Hp} {c : Nat}
theorem cS0 (w : WF h) (hc : c = 48 ∨ c = 54) : hS h c = (10, 7) := by rcases hc with rfl | rfl; exact w.s48; exact w.s54
theorem cS1 (w : WF h) (hc : c = 48 ∨ c = 54) : hS h (c + 1) = (1, 8) := by rcases hc with rfl | rfl; exact w.s49; exact w.s55
theorem cS2 (w : WF h) (hc : c = 48 ∨ c = 54) : hS h (c + 2) = (1, 64) := by rcases hc with rfl | rfl; exact w.s50; exact w.s56
theorem cS3 (w : WF h) (hc : c = 48 ∨ c = 54) : hS h (c + 3) = (1, 8) := by rcases hc with rfl | rfl; exact w.s51; exact w.s57
theorem cS4 (w : WF h) (hc : c = 48 ∨ c = 54) : hS h (c + 4) = (1, 10) := by rcases hc with rfl | rfl; exact w.s52; exact w.s58
theorem cS5 (w : WF h) (hc : c = 48 ∨ c = 54) : hS h (c + 5) = (1, 32) := by rcases hc with rfl | rfl; exact w.s53; exact w.s59
theorem cR2 (w : WF h) (hc : c = 48 ∨ c = 54) : hR h c 2 = some (c + 1) := by rcases hc with rfl | rfl; exact w.r48_2; exact w.r54_2
theorem cR3 (w : WF h) (hc : c = 48 ∨ c = 54) : hR h c 3 = some (c + 2) := by rcases hc with rfl | rfl; exact w.r48_3; exact w.r54_3
theorem cR4 (w : WF h) (hc : c = 48 ∨ c = 54) : hR h c 4 = some (c + 3) := by rcases hc with rfl | rfl; exact w.r48_4; exact w.r54_4
theorem cR5 (w : WF h) (hc : c = 48 ∨ c = 54) : hR h c 5 = some (c + 4) := by rcases hc with rfl | rfl; exact w.r48_5; exact w.r54_5
theorem cR6 (w : WF h) (hc : c = 48 ∨ c = 54) : hR h c 6 = some (c + 5) := by rcases hc with rfl | rfl; exact w.r48_6; exact w.r54_6
theorem cT2 (hc : c = 48 ∨ c = 54) : rfT c 2 = some (c + 1) := by rcases hc with rfl | rfl <;> rfl
theorem cT3 (hc : c = 48 ∨ c = 54) : rfT c 3 = some (c + 2) := by rcases hc with rfl | rfl <;> rfl
theorem cT4 (hc : c = 48 ∨ c = 54) : rfT c 4 = some (c + 3) := by rcases hc with rfl | rfl <;> rfl
theorem cT5 (hc : c = 48 ∨ c = 54) : rfT c 5 = some (c + 4) := by rcases hc with rfl | rfl <;> rfl
theorem cT6 (hc : c = 48 ∨ c = 54) : rfT c 6 = some (c + 5) := by rcases hc with rfl | rfl <;> rfl
theorem c9_ (hc : c = 48 ∨ c = 54) (k : Nat) : 9 ≤ c + k := by omega
theorem c9_0 (hc : c = 48 ∨ c = 54) : 9 ≤ c := by omega
end CC
theorem pR_b {t x : Option Nat} {b : Nat} (ht : t = some b) (hx : x = some b) (f : Value → Prop) : pR t x f = f (.ref b) := by
  rw [ht, pR_s, hx]; exact propext ⟨fun q => q.2, fun q => ⟨rfl, q⟩⟩
/-- the state's relation goes through what leaves its cells alone -/
abbrev SKs (S : Nat → Nat → Prop) : Prop := ∀ a i, S a i → a < 10 ∨ (19 ≤ a ∧ a ≠ 81 ∧ a < 106)
theorem SR0.kp {S : Nat → Nat → Prop} {h h2 : Hp} {na np nl ns nt : Nat} {Tl : Nat → LawT} (x : SR0 h na np nl ns nt Tl) (K : Kp S h h2) (hs : SKs S) : SR0 h2 na np nl ns nt Tl := by
  have n : ∀ a, (10 ≤ a ∧ a < 19) ∨ a = 81 ∨ 106 ≤ a → ∀ i, ¬ S a i := fun a ha i q => by have := hs a i q; omega
  show SRv _ _ _ _ _ _ _ _ _ (LV h2) _ _ _ _ _ _ _ _
  rw [K.lv (fun a i ha => n a (by omega) i), K.2.1, K.I (n 10 (by omega)), K.I (n 11 (by omega)), K.I (n 12 (by omega)), K.I (n 13 (by omega)), K.I (n 14 (by omega)), K.I (n 15 (by omega)), K.R (n 16 (by omega)), K.I (n 17 (by omega)), K.I (n 18 (by omega)), K.I (n 81 (by omega))]
  exact x
/-! what the laws tell -/
theorem clT_ne {hd : Nat → Nat} {hs ht : Nat → Bool} {vs vt : Nat → VF} {fc : Nat → Int32} {H : Nat} (hb : FcB fc) {x : Int32} : ∀ (c : Nat), (∀ i, i < c → VOk (vs i)) → clT hd hs ht vs vt c H fc = some x → ¬ x = -2147483648
  | 0, _, h => by cases h
  | c + 1, ok, h => by
    rw [clT] at h
    split at h
    · split at h
      · cases hv : vs c fc with
        | none => rw [hv] at h; exact clT_ne hb c (fun i hi => ok i (by omega)) h
        | some y => rw [hv] at h; cases h; exact (ok c (by omega)).ne hb hv
      · cases h; decide
    · exact clT_ne hb c (fun i hi => ok i (by omega)) h
theorem clT_1 {hd : Nat → Nat} {hs ht : Nat → Bool} {vs vt : Nat → VF} {fc : Nat → Int32} {H : Nat} (hH : 2 ≤ H) {x : Int32} : ∀ (c : Nat), (∀ i, i < c → hs i = decide (hd i < 2)) → clT hd hs ht vs vt c H fc = some x → x = 1
  | 0, _, h => by cases h
  | c + 1, ok, h => by
    rw [clT] at h
    split at h
    · rename_i q
      rw [if_neg (by rw [ok c (by omega), q.1]; simp; omega)] at h
      cases h; rfl
    · exact clT_1 hH c (fun i hi => ok i (by omega)) h
theorem LawSem.ne {a b c' : Nat → Int32} {c m : Nat} {g : Nat → Int32} {T : LawT} (S : LawSem a b c' c m g T) {fc : Nat → Int32} (hb : FcB fc) {H : Nat} {x : Int32} (hx : T H fc = some x) : ¬ x = -2147483648 := by
  obtain ⟨hd, hs, ht, vs, vt, a, b, a', b', b2', e', m', rfl, -, -, -, -, -, -, h8, -⟩ := S
  exact clT_ne hb c (fun i hi => (h8 i hi).2.2.2.2.2.2.2.2.2.2.2.2.2.2.2.2.2.1) hx
theorem LawSem.one {a b c' : Nat → Int32} {c m : Nat} {g : Nat → Int32} {T : LawT} (S : LawSem a b c' c m g T) {fc : Nat → Int32} {H : Nat} (hH : 2 ≤ H) {x : Int32} (hx : T H fc = some x) : x = 1 := by
  obtain ⟨hd, hs, ht, vs, vt, a, b, a', b', b2', e', m', rfl, -, -, -, -, -, -, h8, -⟩ := S
  exact clT_1 hH c (fun i hi => (h8 i hi).2.1) hx
theorem LawR.lc {h : Hp} {r : Option Nat} {g : Nat → Int32} {T : LawT} (x : LawR (LV h) (hN h) r g T) : ∃ q c m, r = some q ∧ q < hN h ∧ LC h q c m ∧ LawSem (hI h (q + 1)) (hI h (q + 2)) (hI h (q + 3)) c m g T := by
  obtain ⟨q, c, m, h1, h2, h3, h4, h5, h6, h7, h8, h9, hs⟩ := x
  exact ⟨106 + q, c, m, h1, by omega, ⟨by omega, h3, h4, h5, h6, h7, h8, h9⟩, hs⟩
theorem TfR_i {f : Nat → Int32} {Tl : Nat → LawT} {i : Nat} (hi : i < 2 ^ 31) (h : f 3 = nI i) : TfR f Tl = Tl i := by
  rw [TfR, h, if_neg (fun q => (nL_m1 hi).mp q), nI_clamp hi]
theorem TfR_0 {f : Nat → Int32} {Tl : Nat → LawT} (h : f 3 = -1) : TfR f Tl = fun _ _ => none := by
  rw [TfR, if_pos h]
