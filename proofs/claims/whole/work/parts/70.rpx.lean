/-! longs (the first rows out of the kit's BITS) -/
theorem wb_tb (n : Nat) : (lN n).toBitVec = BitVec.ofNat 64 n := rfl
theorem wb_inj {a b : Int64} (h : a.toBitVec = b.toBitVec) : a = b := Int64.toBitVec_inj.mp h
theorem wb_tn {n : Nat} (h : n < 2 ^ 64) : (lN n).toBitVec.toNat = n := by rw [wb_tb, BitVec.toNat_ofNat, Nat.mod_eq_of_lt h]
theorem wb_c : ∀ k, k < 64 → ((nI k).toInt64 &&& 63) = lN k := by decide +kernel
theorem wb_cu : ∀ k, k < 64 → ((nI k).toInt64.toUInt64 &&& Int64.toUInt64 63) = UInt64.ofNat k := by decide +kernel
theorem wb_sm : ∀ k, k < 64 → (BitVec.ofNat 64 k).smod 64 = BitVec.ofNat 64 k := by decide +kernel
theorem wb_lt2 {a b : Nat} (h : a < b) : 2 ^ a < 2 ^ b := Nat.pow_lt_pow_right (by decide) h
theorem wb_shl (n : Nat) {k : Nat} (hk : k < 64) : lN n <<< ((nI k).toInt64 &&& 63) = lN (n * 2 ^ k) := by
  rw [wb_c k hk]
  apply wb_inj
  rw [Int64.toBitVec_shiftLeft, wb_tb, wb_tb, wb_tb, wb_sm k hk]
  apply BitVec.eq_of_toNat_eq
  rw [BitVec.shiftLeft_eq', BitVec.toNat_shiftLeft, BitVec.toNat_ofNat, BitVec.toNat_ofNat, BitVec.toNat_ofNat, Nat.mod_eq_of_lt (show k < 2 ^ 64 by omega), Nat.shiftLeft_eq, Nat.mul_mod, Nat.mod_mod, ← Nat.mul_mod]
theorem wb_and {a b : Nat} (ha : a < 2 ^ 64) (hb : b < 2 ^ 64) : lN a &&& lN b = lN (a &&& b) := by
  apply wb_inj
  rw [Int64.toBitVec_and, wb_tb, wb_tb, wb_tb]
  apply BitVec.eq_of_toNat_eq
  rw [BitVec.toNat_and, BitVec.toNat_ofNat, BitVec.toNat_ofNat, BitVec.toNat_ofNat, Nat.mod_eq_of_lt ha, Nat.mod_eq_of_lt hb, Nat.mod_eq_of_lt (Nat.and_lt_two_pow _ hb)]
theorem wb_or {a b : Nat} (ha : a < 2 ^ 64) (hb : b < 2 ^ 64) : lN a ||| lN b = lN (a ||| b) := by
  apply wb_inj
  rw [Int64.toBitVec_or, wb_tb, wb_tb, wb_tb]
  apply BitVec.eq_of_toNat_eq
  rw [BitVec.toNat_or, BitVec.toNat_ofNat, BitVec.toNat_ofNat, BitVec.toNat_ofNat, Nat.mod_eq_of_lt ha, Nat.mod_eq_of_lt hb, Nat.mod_eq_of_lt (Nat.or_lt_two_pow ha hb)]
theorem wb_mask {n k : Nat} (hn : n < 2 ^ 64) (hk : k < 64) : lN n &&& lN (2 ^ k - 1) = lN (n % 2 ^ k) := by
  rw [wb_and hn (by have := wb_lt2 hk; omega), Nat.and_two_pow_sub_one_eq_mod]
theorem u_tn {n : Nat} (h : n < 2 ^ 64) : (UInt64.ofNat n).toNat = n := Nat.mod_eq_of_lt h
theorem g_or {k p a b : Nat} (hp : 2 ^ k = p) (ha : a < p) (h : b * p + a < 2 ^ 64) : lN (b * p) ||| lN a = lN (b * p + a) := by
  subst hp
  have h1 : b * 2 ^ k ||| a = b * 2 ^ k + a := by rw [← Nat.shiftLeft_eq, Nat.shiftLeft_add_eq_or_of_lt ha]
  have h3 : UInt64.ofNat (b * 2 ^ k) ||| UInt64.ofNat a = UInt64.ofNat (b * 2 ^ k + a) := UInt64.toNat_inj.mp (by rw [UInt64.toNat_or, u_tn (by omega), u_tn (by omega), u_tn h, h1])
  have h2 := congrArg UInt64.toInt64 h3
  exact h2
theorem pf_lI {a : Nat} (h : a < 2 ^ 63) : (lN a).toInt = (a : Int) := lg_ofNat_toInt h
theorem pf_shr {a d : Nat} {D : Int64} (hD : (D.toBitVec.smod 64).toNat = d) (h : a < 2 ^ 62) : lN a >>> D = lN (a / 2 ^ d) := by
  have hd : a / 2 ^ d ≤ a := Nat.div_le_self _ _
  apply Int64.toInt_inj.mp
  have e : (lN a >>> D).toInt = (lN a).toInt >>> d := by
    rw [← hD]
    exact BitVec.toInt_sshiftRight ..
  rw [e, Int.shiftRight_eq_div_pow, pf_lI (by omega), pf_lI (by omega)]
  rfl
/-! longs beside literals -/
theorem lL_shl (n : Nat) {k : Nat} (hk : (OfNat.ofNat k : Nat) < 64) : lN n <<< ((no_index (OfNat.ofNat k : Int32)).toInt64 &&& 63) = lN (n * 2 ^ OfNat.ofNat k) := wb_shl n hk
theorem s_sm : ∀ k, k < 64 → (((nI k).toInt64 &&& 63).toBitVec.smod 64).toNat = k := by decide +kernel
theorem lL_shr {n k : Nat} (hn : n < 2 ^ 62) (hk : (OfNat.ofNat k : Nat) < 64) : lN n >>> ((no_index (OfNat.ofNat k : Int32)).toInt64 &&& 63) = lN (n / 2 ^ OfNat.ofNat k) := pf_shr (s_sm k hk) hn
theorem lI_shr {n k : Nat} (hn : n < 2 ^ 62) (hk : k < 64) : lN n >>> ((nI k).toInt64 &&& 63) = lN (n / 2 ^ k) := pf_shr (s_sm k hk) hn
theorem lL_low {n : Nat} (hn : n < 2 ^ 62) : lN n &&& 4294967295 = lN (n % 2 ^ 32) := wb_mask (n := n) (k := 32) (by omega) (by decide)
/-! what a row of the class's tables says: the least cost, and how many cost so much -/
def encX (pu m n : Nat) : Nat := if pu = 0 then m else m * 2 ^ 32 + n
def RpX (pu : Nat) (x : Int64) (G : Nat → Nat) : Prop := (x = NoN ∧ ∀ k, G k = 0) ∨ ∃ m, 0 < G m ∧ (∀ k, k < m → G k = 0) ∧ x = lN (encX pu m (G m))
abbrev kMx (pu : Nat) : Nat := if pu = 0 then 2 ^ 40 else 2 ^ 20
def BdX (pu : Nat) (G : Nat → Nat) : Prop := (∀ k, G k < 2 ^ 30) ∧ ∀ k, 0 < G k → k < kMx pu
theorem BdX.le {pu : Nat} {G H : Nat → Nat} (b : BdX pu H) (h : ∀ k, G k ≤ H k) : BdX pu G := ⟨fun k => by have := h k; have := b.1 k; omega, fun k hk => b.2 k (by have := h k; omega)⟩
theorem encX_lt {pu m n : Nat} (hm : m < kMx pu) (hn : n < 2 ^ 30) : encX pu m n < 2 ^ 53 := by
  unfold encX
  by_cases e : pu = 0
  · rw [if_pos e]; simp only [kMx, if_pos e] at hm; omega
  · rw [if_neg e]; simp only [kMx, if_neg e] at hm; omega
theorem RpX.cong {pu : Nat} {x : Int64} {G H : Nat → Nat} (r : RpX pu x G) (h : ∀ k, G k = H k) : RpX pu x H := by
  rw [show H = G from funext fun k => (h k).symm]; exact r
def btr (pu : Nat) (x y : Int64) : Int64 := if pu = 0 then (if y < x then y else x) else if x >>> ((32 : Int32).toInt64 &&& 63) = y >>> ((32 : Int32).toInt64 &&& 63) then x + (y &&& 4294967295) else if x >>> ((32 : Int32).toInt64 &&& 63) < y >>> ((32 : Int32).toInt64 &&& 63) then x else y
theorem NoN_l : NoN = lN (2 ^ 60) := rfl
theorem RpX.lt {pu : Nat} {x : Int64} {G : Nat → Nat} (r : RpX pu x G) (b : BdX pu G) : (x < NoN ↔ ¬ ∀ k, G k = 0) ∧ (NoN ≤ x ↔ ∀ k, G k = 0) := by
  rcases r with ⟨rfl, h⟩ | ⟨m, h1, h2, rfl⟩
  · exact ⟨⟨fun q => absurd q (by decide), fun q => absurd h q⟩, ⟨fun _ => h, fun _ => by decide⟩⟩
  · have e := encX_lt (pu := pu) (b.2 m h1) (b.1 m)
    have n : ¬ ∀ k, G k = 0 := fun q => by rw [q m] at h1; exact absurd h1 (Nat.lt_irrefl 0)
    refine ⟨⟨fun _ => n, fun _ => ?_⟩, ⟨fun q => ?_, fun q => absurd q n⟩⟩
    · rw [NoN_l, pk_lLT (by omega) (by omega)]; omega
    · rw [NoN_l, pk_lLE (by omega) (by omega)] at q; omega
theorem RpX.mk2 {pu m : Nat} {x : Int64} {G H : Nat → Nat} (h1 : 0 < G m + H m) (h2 : ∀ k, k < m → G k + H k = 0) (hx : x = lN (encX pu m (G m + H m))) : RpX pu x (fun k => G k + H k) := Or.inr ⟨m, h1, h2, hx⟩
theorem btr_ok {pu : Nat} {x y : Int64} {G H : Nat → Nat} (rx : RpX pu x G) (ry : RpX pu y H) (hy : ¬ ∀ k, H k = 0) (b : BdX pu (fun k => G k + H k)) : RpX pu (btr pu x y) (fun k => G k + H k) := by
  have bG : BdX pu G := b.le (fun k => Nat.le_add_right _ _)
  have bH : BdX pu H := b.le (fun k => Nat.le_add_left _ _)
  rcases ry with ⟨-, h⟩ | ⟨n, k1, k2, rfl⟩
  · exact absurd h hy
  have eH := encX_lt (pu := pu) (bH.2 n k1) (bH.1 n)
  by_cases e : pu = 0
  · subst e
    have hn := bH.2 n k1
    simp only [kMx, if_pos] at hn
    rw [btr, if_pos rfl]
    rw [encX, if_pos rfl]
    rcases rx with ⟨rfl, h⟩ | ⟨m, h1, h2, rfl⟩
    · rw [if_pos (by rw [NoN_l, pk_lLT (by omega) (by omega)]; omega)]
      refine RpX.mk2 (m := n) (by omega) (fun k hk => by rw [h, k2 k hk]) ?_
      rw [encX, if_pos rfl]
    · have hm := bG.2 m h1
      simp only [kMx, if_pos] at hm
      rw [encX, if_pos rfl]
      by_cases c : n < m
      · rw [if_pos (by rw [pk_lLT (by omega) (by omega)]; exact c)]
        refine RpX.mk2 (m := n) (by omega) (fun k hk => by rw [h2 k (by omega), k2 k hk]) ?_
        rw [encX, if_pos rfl]
      · rw [if_neg (by rw [pk_lLT (by omega) (by omega)]; exact c)]
        refine RpX.mk2 (m := m) (by omega) (fun k hk => by rw [h2 k hk, k2 k (by omega)]) ?_
        rw [encX, if_pos rfl]
  · have hn := bH.2 n k1
    have hn2 := bH.1 n
    simp only [kMx, if_neg e] at hn
    rw [btr, if_neg e]
    have y32 : lN (encX pu n (H n)) >>> ((32 : Int32).toInt64 &&& 63) = lN n := by
      rw [lL_shr (by omega) (by decide), encX, if_neg e]
      congr 1; omega
    rw [y32]
    rcases rx with ⟨rfl, h⟩ | ⟨m, h1, h2, rfl⟩
    · have x32 : NoN >>> ((32 : Int32).toInt64 &&& 63) = lN (2 ^ 28) := by decide
      rw [x32, if_neg (by rw [pk_lEQ (by omega) (by omega)]; omega), if_neg (by rw [pk_lLT (by omega) (by omega)]; omega)]
      refine RpX.mk2 (m := n) (by omega) (fun k hk => by rw [h, k2 k hk]) ?_
      show _ = lN (encX pu n (G n + H n))
      rw [h n, Nat.zero_add]
    · have hm := bG.2 m h1
      have hm2 := bG.1 m
      simp only [kMx, if_neg e] at hm
      have eG := encX_lt (pu := pu) (bG.2 m h1) (bG.1 m)
      have x32 : lN (encX pu m (G m)) >>> ((32 : Int32).toInt64 &&& 63) = lN m := by
        rw [lL_shr (by omega) (by decide), encX, if_neg e]
        congr 1; omega
      rw [x32]
      by_cases c : m = n
      · subst c
        rw [if_pos rfl, lL_low (by omega), lN_add]
        refine RpX.mk2 (m := m) (by omega) (fun k hk => by rw [h2 k hk, k2 k hk]) ?_
        congr 1
        simp only [encX, if_neg e]; omega
      · rw [if_neg (by rw [pk_lEQ (by omega) (by omega)]; exact c)]
        by_cases c2 : m < n
        · rw [if_pos (by rw [pk_lLT (by omega) (by omega)]; exact c2)]
          refine RpX.mk2 (m := m) (by omega) (fun k hk => by rw [h2 k hk, k2 k (by omega)]) ?_
          show _ = lN (encX pu m (G m + H m))
          rw [k2 m c2, Nat.add_zero]
        · rw [if_neg (by rw [pk_lLT (by omega) (by omega)]; exact c2)]
          refine RpX.mk2 (m := n) (by omega) (fun k hk => by rw [h2 k (by omega), k2 k hk]) ?_
          show _ = lN (encX pu n (G n + H n))
          rw [h2 n (by omega), Nat.zero_add]
/-- the weight as the class adds it -/
def ewX (pu w : Nat) : Nat := if pu = 0 then w else w * 2 ^ 32
theorem RpX_sh {pu : Nat} {x : Int64} {G : Nat → Nat} (r : RpX pu x G) (w : Nat) (hx : ¬ ∀ k, G k = 0) : RpX pu (x + lN (ewX pu w)) (sh G w) := by
  rcases r with ⟨-, h⟩ | ⟨m, h1, h2, rfl⟩
  · exact absurd h hx
  have e : sh G w (m + w) = G m := by
    unfold sh
    rw [if_pos (by omega), Nat.add_sub_cancel]
  refine Or.inr ⟨m + w, ?_, fun k hk => ?_, ?_⟩
  · rw [e]; exact h1
  · unfold sh
    split
    · exact h2 _ (by omega)
    · rfl
  · rw [lN_add, e]
    congr 1
    unfold encX ewX
    split
    · rfl
    · omega
