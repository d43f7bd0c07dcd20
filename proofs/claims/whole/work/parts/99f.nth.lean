/-! the i-th night -/
section NT
variable {f : Nat → Int32} {Tl : Nat → LawT} {na np : Nat}
def NthV (f : Nat → Int32) (Tl : Nat → LawT) (na np i p : Nat) (v : Int32) : Prop := (v = -1 ∧ ((∀ k, CG f np (illN f) (cnA f Tl) fxm (coA f Tl) na (2 ^ np - 1) k = 0) ∨ ∃ its, 0 < CG f np (illN f) (cnA f Tl) fxm (coA f Tl) na (2 ^ np - 1) its ∧ (∀ k, k < its → CG f np (illN f) (cnA f Tl) fxm (coA f Tl) na (2 ^ np - 1) k = 0) ∧ CG f np (illN f) (cnA f Tl) fxm (coA f Tl) na (2 ^ np - 1) its ≤ i)) ∨ ∃ its g, 0 < CG f np (illN f) (cnA f Tl) fxm (coA f Tl) na (2 ^ np - 1) its ∧ (∀ k, k < its → CG f np (illN f) (cnA f Tl) fxm (coA f Tl) na (2 ^ np - 1) k = 0) ∧ i < CG f np (illN f) (cnA f Tl) fxm (coA f Tl) na (2 ^ np - 1) its ∧ PickR (NF (mu0 f np (illN f) (cnA f Tl)) (coA f Tl) na (2 ^ np - 1) its) np i g ∧ v = nI (g p)
theorem lst_uniq {G : Nat → Nat} {m n : Nat} (h1 : 0 < G m) (h2 : ∀ k, k < m → G k = 0) (k1 : 0 < G n) (k2 : ∀ k, k < n → G k = 0) : m = n := by
  rcases Nat.lt_trichotomy m n with z | z | z
  · have := k2 m z; omega
  · exact z
  · have := h2 n z; omega
theorem NthV.uniq {i p : Nat} {v v' : Int32} (hp : p < np) (x : NthV f Tl na np i p v) (y : NthV f Tl na np i p v') : v = v' := by
  rcases x with ⟨e, c⟩ | ⟨its, g, a1, a2, a3, a4, e⟩
  · rcases y with ⟨e', -⟩ | ⟨its', g', b1, b2, b3, -, -⟩
    · rw [e, e']
    · rcases c with c | ⟨its, c1, c2, c3⟩
      · have := c its'; omega
      · have := lst_uniq c1 c2 b1 b2
        subst this; omega
  · rcases y with ⟨-, c⟩ | ⟨its', g', b1, b2, b3, b4, e'⟩
    · rcases c with c | ⟨its', c1, c2, c3⟩
      · have := c its; omega
      · have := lst_uniq c1 c2 a1 a2
        subst this; omega
    · have := lst_uniq a1 a2 b1 b2
      subst this
      rw [e, e', PickR.uniq (NF_ok _ _ _ _ _) a4 b4 np (Nat.le_refl _) p hp]
theorem PickedOk.v {i p : Nat} {pk : Nat → Int32} (hi : i < 2 ^ 31) (hp : p < np) (x : PickedOk f Tl na np (nI i) pk) : NthV f Tl na np i p (pk p) := by
  obtain ⟨j, hj, e, c⟩ := x
  rw [nI_eq hi hj] at e
  subst e
  rcases c with ⟨u, c⟩ | ⟨its, g, a1, a2, a3, a4, u⟩
  · exact Or.inl ⟨u p hp, c⟩
  · exact Or.inr ⟨its, g, a1, a2, a3, a4, u p hp⟩
end NT
