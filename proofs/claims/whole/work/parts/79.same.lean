/-! both count the same ways -/
def coN (f : Nat → Int32) (Tl : Nat → LawT) (kn : Nat → Int32) (wk : Int32) (a p : Nat) : Nat := (costI f Tl kn wk a p).toNatClampNeg
def cbN (f : Nat → Int32) (Tl : Nat → LawT) (kn : Nat → Int32) (wk : Int32) (np a : Nat) : Nat := bitsB (canB f Tl kn wk a) np
def beN (f : Nat → Int32) (np p : Nat) : Nat := bitsB (besB f p) np
theorem clampT_n {wo : Int32} {m : Nat} {o : Option Int32} (hm : m < 2 ^ 31) : ∃ v : Nat, v ≤ m ∧ clampT wo (nI m) o = nI v := by
  unfold clampT
  by_cases c1 : o.getD wo < 0
  · rw [if_pos c1]; exact ⟨0, Nat.zero_le _, rfl⟩
  · rw [if_neg c1]
    by_cases c2 : nI m < o.getD wo
    · rw [if_pos c2]; exact ⟨m, Nat.le_refl _, rfl⟩
    · rw [if_neg c2]
      obtain ⟨j, hj, e⟩ := nI_of c1
      refine ⟨j, ?_, e⟩
      rw [e] at c2
      rw [nI_ltI hm hj] at c2; omega
theorem cost_n (f : Nat → Int32) (Tl : Nat → LawT) (kn : Nat → Int32) (wk : Int32) (a p : Nat) : costI f Tl kn wk a p = nI (coN f Tl kn wk a p) ∧ coN f Tl kn wk a p ≤ 99 := by
  obtain ⟨v, hv, e⟩ := clampT_n (wo := 1 - bI (f (42 + 4 * p + 3) = nI a)) (m := 99) (o := TfR f Tl 0 (fcs f kn wk a p)) (by decide)
  have e : costI f Tl kn wk a p = nI v := e
  have e2 : coN f Tl kn wk a p = v := by unfold coN; rw [e, nI_clamp (by omega)]
  rw [e2]; exact ⟨e, hv⟩
theorem cb_lt (f : Nat → Int32) (Tl : Nat → LawT) (kn : Nat → Int32) (wk : Int32) {np : Nat} (h : np ≤ 8) (a : Nat) : cbN f Tl kn wk np a < 256 := Nat.lt_of_lt_of_le (bitsB_lt _ _) (p2_le h)
theorem be_lt (f : Nat → Int32) {np : Nat} (h : np ≤ 8) (p : Nat) : beN f np p < 256 := Nat.lt_of_lt_of_le (bitsB_lt _ _) (p2_le h)
abbrev fxm : Nat → Int32 := fun _ => -1
theorem full_tb {np p : Nat} : (2 ^ np - 1).testBit p = decide (p < np) := Nat.testBit_two_pow_sub_one np p
theorem able_same (f : Nat → Int32) (Tl : Nat → LawT) (kn : Nat → Int32) (wk : Int32) {np : Nat} (hnp : np ≤ 8) (a p : Nat) : (ableN (cbN f Tl kn wk np) (beN f np) (fun _ => 0) (2 ^ np - 1) a).testBit p = (decide (p < np) && canB f Tl kn wk a p) := by
  unfold ableN rmN
  rw [if_pos rfl, Nat.testBit_and, Nat.testBit_and, full_tb, c255, cbN, bitsB_tb]
  by_cases h : p < np
  · simp [h, show p < 8 by omega]
  · simp [h]
theorem may_same (f : Nat → Int32) (Tl : Nat → LawT) (kn : Nat → Int32) (wk : Int32) (np a p : Nat) : mayB np (canB f Tl kn wk) fxm a p = (decide (p < np) && canB f Tl kn wk a p) := by
  unfold mayB; simp
theorem mu_same (f : Nat → Int32) (Tl : Nat → LawT) (kn : Nat → Int32) (wk : Int32) {np : Nat} (hnp : np ≤ 8) (ill a c : Nat) : muOf (sgN ill (cbN f Tl kn wk np) (beN f np) (fun _ => 0) (2 ^ np - 1)) (prN ill (cbN f Tl kn wk np) (beN f np) (fun _ => 0) (2 ^ np - 1)) a c = muOf (sgM np ill (canB f Tl kn wk) fxm) (prM f np ill (canB f Tl kn wk) fxm) a c := by
  unfold muOf
  congr 1
  · congr 1
    refine sumN_cong fun p _ => ?_
    rw [sgN, sgM, able_same f Tl kn wk hnp, may_same]
  · refine sumN_cong fun p hp => sumN_cong fun q hq => ?_
    have e : q < p → prN ill (cbN f Tl kn wk np) (beN f np) (fun _ => 0) (2 ^ np - 1) a p q = prM f np ill (canB f Tl kn wk) fxm a p q := by
      intro hqp
      unfold prN prM
      rw [able_same f Tl kn wk hnp, able_same f Tl kn wk hnp, may_same, may_same, beN, bitsB_tb]
      unfold besB dblB
      by_cases h : p < np
      · have : p ≠ q := by omega
        simp [h, this]
      · simp [h]
    by_cases hqp : q < p
    · rw [e hqp]
    · rw [if_neg (fun x => hqp x.1.1), if_neg (fun x => hqp x.1.1)]
/-- with weights wt, all parts to give -/
theorem CN_same (f : Nat → Int32) (Tl : Nat → LawT) (kn : Nat → Int32) (wk : Int32) {np : Nat} (hnp : np ≤ 8) (pu ill a S k : Nat) (co : Nat → Nat → Nat) : CN pu ill (cbN f Tl kn wk np) (beN f np) (fun _ => 0) co (2 ^ np - 1) a S k = CG f np ill (canB f Tl kn wk) fxm (wtX pu co) a S k :=
  Cm_cong a (fun b _ c _ => ⟨mu_same f Tl kn wk hnp ill b c, fun _ => rfl⟩) S k
theorem wtX_1 (co : Nat → Nat → Nat) : wtX 1 co = co := by
  funext a p; rw [wtX, if_neg (by decide), if_pos rfl]
theorem wtX_2 (co : Nat → Nat → Nat) : wtX 2 co = z0 := by
  funext a p; rw [wtX, if_neg (by decide), if_neg (by decide)]
/-! the FIRST night's number: its cost ahead of its row of actors -/
def rwt (a p : Nat) : Nat := a * 2 ^ (3 * (7 - p))
theorem wtX_0 (co : Nat → Nat → Nat) (S : Nat) (g : Nat → Nat) : wg (wtX 0 co) S g = wg co S g * 2 ^ 24 + wg rwt S g := by
  unfold wg
  rw [sum_mul_r, ← sumN_add]
  refine sumN_cong fun p _ => ?_
  split
  · rw [wtX, if_pos rfl]; rfl
  · rfl
def dgt (S : Nat) (g : Nat → Nat) (p : Nat) : Nat := if S.testBit p = true then g p else 0
theorem wg_rwt (S : Nat) (g : Nat → Nat) : wg rwt S g = dgt S g 0 * 2097152 + dgt S g 1 * 262144 + dgt S g 2 * 32768 + dgt S g 3 * 4096 + dgt S g 4 * 512 + dgt S g 5 * 64 + dgt S g 6 * 8 + dgt S g 7 := by
  have e : wg rwt S g = sumN 8 (fun p => dgt S g p * 2 ^ (3 * (7 - p))) := sumN_cong fun p _ => by
    unfold dgt rwt
    split
    · rfl
    · rw [Nat.zero_mul]
  rw [e]
  simp only [sumN]
  simp only [show (2 : Nat) ^ (3 * (7 - 0)) = 2097152 from rfl, show (2 : Nat) ^ (3 * (7 - 1)) = 262144 from rfl, show (2 : Nat) ^ (3 * (7 - 2)) = 32768 from rfl, show (2 : Nat) ^ (3 * (7 - 3)) = 4096 from rfl, show (2 : Nat) ^ (3 * (7 - 4)) = 512 from rfl, show (2 : Nat) ^ (3 * (7 - 5)) = 64 from rfl, show (2 : Nat) ^ (3 * (7 - 6)) = 8 from rfl, show (2 : Nat) ^ (3 * (7 - 7)) = 1 from rfl]
  omega
theorem dgt_lt {mu : Nat → Nat → Nat} {a S : Nat} {g : Nat → Nat} (x : Exg mu a S g) (ha : a ≤ 8) {p : Nat} (hp : p < 8) : dgt S g p < 8 := by
  unfold dgt
  split
  · rename_i q; have := x.lt p hp q; omega
  · omega
theorem rw_lt {mu : Nat → Nat → Nat} {a S : Nat} {g : Nat → Nat} (x : Exg mu a S g) (ha : a ≤ 8) : wg rwt S g < 2 ^ 24 := by
  rw [wg_rwt]
  have h0 := dgt_lt x ha (p := 0) (by decide); have h1 := dgt_lt x ha (p := 1) (by decide); have h2 := dgt_lt x ha (p := 2) (by decide); have h3 := dgt_lt x ha (p := 3) (by decide)
  have h4 := dgt_lt x ha (p := 4) (by decide); have h5 := dgt_lt x ha (p := 5) (by decide); have h6 := dgt_lt x ha (p := 6) (by decide); have h7 := dgt_lt x ha (p := 7) (by decide)
  omega
theorem code_dg {mu : Nat → Nat → Nat} {a S : Nat} {g : Nat → Nat} (x : Exg mu a S g) (ha : a ≤ 8) (c : Nat) {p : Nat} (hp : p < 8) : (c * 2 ^ 24 + wg rwt S g) / 2 ^ (3 * (7 - p)) % 8 = dgt S g p := by
  rw [wg_rwt]
  have h0 := dgt_lt x ha (p := 0) (by decide); have h1 := dgt_lt x ha (p := 1) (by decide); have h2 := dgt_lt x ha (p := 2) (by decide); have h3 := dgt_lt x ha (p := 3) (by decide)
  have h4 := dgt_lt x ha (p := 4) (by decide); have h5 := dgt_lt x ha (p := 5) (by decide); have h6 := dgt_lt x ha (p := 6) (by decide); have h7 := dgt_lt x ha (p := 7) (by decide)
  have : p = 0 ∨ p = 1 ∨ p = 2 ∨ p = 3 ∨ p = 4 ∨ p = 5 ∨ p = 6 ∨ p = 7 := by omega
  rcases this with rfl | rfl | rfl | rfl | rfl | rfl | rfl | rfl
  · rw [show (2 : Nat) ^ (3 * (7 - 0)) = 2097152 from rfl]; omega
  · rw [show (2 : Nat) ^ (3 * (7 - 1)) = 262144 from rfl]; omega
  · rw [show (2 : Nat) ^ (3 * (7 - 2)) = 32768 from rfl]; omega
  · rw [show (2 : Nat) ^ (3 * (7 - 3)) = 4096 from rfl]; omega
  · rw [show (2 : Nat) ^ (3 * (7 - 4)) = 512 from rfl]; omega
  · rw [show (2 : Nat) ^ (3 * (7 - 5)) = 64 from rfl]; omega
  · rw [show (2 : Nat) ^ (3 * (7 - 6)) = 8 from rfl]; omega
  · rw [show (2 : Nat) ^ (3 * (7 - 7)) = 1 from rfl]; omega
/-- a row that is smaller at the first place where two differ is the smaller number -/
theorem row_lt {mu mu' : Nat → Nat → Nat} {a S : Nat} {g g' : Nat → Nat} (x : Exg mu a S g) (x' : Exg mu' a S g') (ha : a ≤ 8) {p : Nat} (hp : p < 8) (hS : S.testBit p = true) (he : ∀ q, q < p → S.testBit q = true → g q = g' q) (hlt : g p < g' p) : wg rwt S g < wg rwt S g' := by
  rw [wg_rwt, wg_rwt]
  have d : ∀ q, q < p → dgt S g q = dgt S g' q := fun q hq => by
    unfold dgt; split
    · rename_i s; exact he q hq s
    · rfl
  have dp : dgt S g p < dgt S g' p := by unfold dgt; rw [if_pos hS, if_pos hS]; exact hlt
  have h0 := dgt_lt x ha (p := 0) (by decide); have h1 := dgt_lt x ha (p := 1) (by decide); have h2 := dgt_lt x ha (p := 2) (by decide); have h3 := dgt_lt x ha (p := 3) (by decide)
  have h4 := dgt_lt x ha (p := 4) (by decide); have h5 := dgt_lt x ha (p := 5) (by decide); have h6 := dgt_lt x ha (p := 6) (by decide); have h7 := dgt_lt x ha (p := 7) (by decide)
  have : p = 0 ∨ p = 1 ∨ p = 2 ∨ p = 3 ∨ p = 4 ∨ p = 5 ∨ p = 6 ∨ p = 7 := by omega
  rcases this with rfl | rfl | rfl | rfl | rfl | rfl | rfl | rfl
  · omega
  · have := d 0 (by decide); omega
  · have := d 0 (by decide); have := d 1 (by decide); omega
  · have := d 0 (by decide); have := d 1 (by decide); have := d 2 (by decide); omega
  · have := d 0 (by decide); have := d 1 (by decide); have := d 2 (by decide); have := d 3 (by decide); omega
  · have := d 0 (by decide); have := d 1 (by decide); have := d 2 (by decide); have := d 3 (by decide); have := d 4 (by decide); omega
  · have := d 0 (by decide); have := d 1 (by decide); have := d 2 (by decide); have := d 3 (by decide); have := d 4 (by decide); have := d 5 (by decide); omega
  · have := d 0 (by decide); have := d 1 (by decide); have := d 2 (by decide); have := d 3 (by decide); have := d 4 (by decide); have := d 5 (by decide); have := d 6 (by decide); omega
/-- the FIRST: g is a night, its cost is the least, and its row is the lowest of those -/
def Fst (mu : Nat → Nat → Nat) (co : Nat → Nat → Nat) (na S : Nat) (g : Nat → Nat) : Prop := Exg mu na S g ∧ ∀ g', Exg mu na S g' → wg co S g < wg co S g' ∨ (wg co S g = wg co S g' ∧ wg rwt S g ≤ wg rwt S g')
theorem RpX.first {mu co : Nat → Nat → Nat} {na S : Nat} {x : Int64} (hn : na ≤ 8) (hS : S < 256) (r : RpX 0 x (Cm mu (wm (wtX 0 co)) na S)) : (x = NoN ∧ ∀ g, ¬ Exg mu na S g) ∨ ∃ g, Fst mu co na S g ∧ x = lN (wg co S g * 2 ^ 24 + wg rwt S g) := by
  rcases r with ⟨e, h⟩ | ⟨m, h1, h2, e⟩
  · refine Or.inl ⟨e, fun g hg => ?_⟩
    have := (Cm_pos (wt := wtX 0 co) na S (wg (wtX 0 co) S g) hS).mpr ⟨g, hg, rfl⟩
    rw [h] at this; exact absurd this (Nat.lt_irrefl 0)
  · obtain ⟨g, g1, g2⟩ := (Cm_pos na S m hS).mp h1
    refine Or.inr ⟨g, ⟨g1, fun g' hg' => ?_⟩, ?_⟩
    · have hm : ¬ wg (wtX 0 co) S g' < m := fun q => by
        have := (Cm_pos (wt := wtX 0 co) na S (wg (wtX 0 co) S g') hS).mpr ⟨g', hg', rfl⟩
        rw [h2 _ q] at this; exact absurd this (Nat.lt_irrefl 0)
      rw [← g2, wtX_0, wtX_0] at hm
      have b1 := rw_lt g1 hn
      have b2 := rw_lt hg' hn
      omega
    · rw [e, encX, if_pos rfl, ← g2, wtX_0]
