section UPD2
variable {s af pf us kn tm : Nat → Int32} {lw : Nat → Option Nat} {ls td : Nat → Int32} {L : LvT} {n : Nat} {f : Nat → Int32} {na np nl ns nt : Nat} {Tl : Nat → LawT}
theorem SRv.terms (x : SRv s af pf us kn tm lw ls td L n f na np nl ns nt Tl) {k v : Nat} (hk : (k = 0 ∧ v ≤ 9) ∨ (k = 1 ∧ v ≤ 1) ∨ (k = 2 ∧ v ≤ 99)) : SRv s af pf us kn (va_up tm k (nI v)) lw ls td L n (va_up f (5 + k) (nI v)) na np nl ns nt Tl := by
  obtain ⟨x1, x2, x3, x4, x5, x6, x7, x8, x9, x10, x11⟩ := x
  have hn := x1.1
  refine ⟨x1.off ⟨up_off (by omega), up_off (by omega), up_off (by omega), up_off (by omega), up_off (by omega)⟩, x2.off (up_off (by omega)), x3.off (up_off (by omega)), ?_, x5.off (fun i _ _ => up_off (by omega)), x6.off (fun i _ _ => up_off (by omega)), x7.off hn.2.1 (fun i _ _ => up_off (by omega)), x8.off (fun i _ _ => up_off (by omega)), x9.off hn.2.2.2.1 (fun i _ _ => up_off (by omega)), x10.off (by omega) (fun i _ _ => up_off (by omega)), x11.off hn.2.2.1 (fun i _ h2 => up_off (by omega))⟩
  obtain ⟨a, b, c, ⟨a1, a2, a3⟩, ⟨b1, b2, b3⟩, c1, c2, c3⟩ := x4
  rcases hk with ⟨rfl, hv⟩ | ⟨rfl, hv⟩ | ⟨rfl, hv⟩
  · exact ⟨v, b, c, ⟨up_self, up_self, hv⟩, ⟨by rw [up_off (by omega)]; exact b1, by rw [up_off (by omega)]; exact b2, b3⟩, by rw [up_off (by omega)]; exact c1, by rw [up_off (by omega)]; exact c2, c3⟩
  · exact ⟨a, v, c, ⟨by rw [up_off (by omega)]; exact a1, by rw [up_off (by omega)]; exact a2, a3⟩, ⟨up_self, up_self, hv⟩, by rw [up_off (by omega)]; exact c1, by rw [up_off (by omega)]; exact c2, c3⟩
  · exact ⟨a, b, v, ⟨by rw [up_off (by omega)]; exact a1, by rw [up_off (by omega)]; exact a2, a3⟩, ⟨by rw [up_off (by omega)]; exact b1, by rw [up_off (by omega)]; exact b2, b3⟩, up_self, up_self, hv⟩
theorem SRv.force (x : SRv s af pf us kn tm lw ls td L n f na np nl ns nt Tl) {v : Int32} (hv : v = -1 ∨ ∃ i, i < nl ∧ v = nI i) : SRv (va_up s 10 v) af pf us kn tm lw ls td L n (va_up f 3 v) na np nl ns nt Tl := by
  obtain ⟨x1, x2, x3, x4, x5, x6, x7, x8, x9, x10, x11⟩ := x
  have hn := x1.1
  refine ⟨CntR.off (s := va_up s 10 v) (f := f) x1 ⟨up_off (by omega), up_off (by omega), up_off (by omega), up_off (by omega), up_off (by omega)⟩, ⟨by rw [up_self, up_self], by rw [up_self]; exact hv⟩, IllR.off (s := va_up s 10 v) (f := f) x3 (up_off (by omega)), x4.off ⟨up_off (by omega), up_off (by omega), up_off (by omega)⟩, x5.off (fun i _ _ => up_off (by omega)), x6.off (fun i _ _ => up_off (by omega)), x7.off hn.2.1 (fun i _ _ => up_off (by omega)), x8.off (fun i _ _ => up_off (by omega)), x9.off hn.2.2.2.1 (fun i _ _ => up_off (by omega)), x10.off (by omega) (fun i _ _ => up_off (by omega)), x11.off hn.2.2.1 (fun i _ h2 => up_off (by omega))⟩
theorem SRv.told (x : SRv s af pf us kn tm lw ls td L n f na np nl ns nt Tl) {m : Nat} (hm : m ≤ np) (ht : TdR td f na m) : SRv (va_up s 14 (nI m)) af pf us kn tm lw ls td L n (va_up f 9 (nI m)) na np nl ns m Tl := by
  obtain ⟨x1, x2, x3, x4, x5, x6, x7, x8, x9, x10, x11⟩ := x
  have hn := x1.1
  obtain ⟨⟨n1, n2, n3, n4, n5⟩, ⟨s1, s2, s3, s4, s5⟩, f1, f2, f3, f4, f5⟩ := x1
  refine ⟨⟨⟨n1, n2, n3, n4, hm⟩, ⟨by rw [up_off (by omega)]; exact s1, by rw [up_off (by omega)]; exact s2, by rw [up_off (by omega)]; exact s3, by rw [up_off (by omega)]; exact s4, up_self⟩, by rw [up_off (by omega)]; exact f1, by rw [up_off (by omega)]; exact f2, by rw [up_off (by omega)]; exact f3, by rw [up_off (by omega)]; exact f4, up_self⟩, FrcR.off (s := va_up s 14 (nI m)) (f := f) x2 (up_off (by omega)), IllR.off (s := va_up s 14 (nI m)) (f := f) x3 (up_off (by omega)), x4.off ⟨up_off (by omega), up_off (by omega), up_off (by omega)⟩, x5.off (fun i _ _ => up_off (by omega)), x6.off (fun i _ _ => up_off (by omega)), x7.off hn.2.1 (fun i _ _ => up_off (by omega)), x8.off (fun i _ _ => up_off (by omega)), x9.off hn.2.2.2.1 (fun i _ _ => up_off (by omega)), ht.off (by omega) (fun i _ _ => up_off (by omega)), x11.off hn.2.2.1 (fun i _ h2 => up_off (by omega))⟩
/-- a place of the told row -/
theorem SRv.tell1 (x : SRv s af pf us kn tm lw ls td L n f na np nl ns nt Tl) {a : Nat} (ha : a < na) (hnt : nt < np) : SRv s af pf us kn tm lw ls (va_up td nt (nI a)) L n (va_up f (166 + nt) (nI a)) na np nl ns nt Tl ∧ TdR (va_up td nt (nI a)) (va_up f (166 + nt) (nI a)) na (nt + 1) := by
  obtain ⟨x1, x2, x3, x4, x5, x6, x7, x8, x9, x10, x11⟩ := x
  have hn := x1.1
  have key : TdR (va_up td nt (nI a)) (va_up f (166 + nt) (nI a)) na (nt + 1) := by
    intro i hi
    by_cases e : i = nt
    · subst e; exact ⟨a, ha, up_self, up_self⟩
    · rw [up_off e, up_off (by omega)]; exact x10 i (by omega)
  refine ⟨⟨x1.off ⟨up_off (by omega), up_off (by omega), up_off (by omega), up_off (by omega), up_off (by omega)⟩, x2.off (up_off (by omega)), x3.off (up_off (by omega)), x4.off ⟨up_off (by omega), up_off (by omega), up_off (by omega)⟩, x5.off (fun i _ _ => up_off (by omega)), x6.off (fun i _ _ => up_off (by omega)), x7.off hn.2.1 (fun i _ _ => up_off (by omega)), x8.off (fun i _ _ => up_off (by omega)), x9.off hn.2.2.2.1 (fun i _ _ => up_off (by omega)), fun i hi => key i (by omega), x11.off hn.2.2.1 (fun i _ h2 => up_off (by omega))⟩, key⟩
/-- one actor more -/
theorem SRv.actor (x : SRv s af pf us kn tm lw ls td L n f na np nl ns nt Tl) (ha : na < 8) : SRv (va_up s 0 (nI (na + 1))) af pf us kn tm lw ls td L n (va_up f 0 (nI (na + 1))) (na + 1) np nl ns nt Tl := by
  obtain ⟨x1, x2, x3, x4, x5, x6, x7, x8, x9, x10, x11⟩ := x
  have hn := x1.1
  obtain ⟨⟨n1, n2, n3, n4, n5⟩, ⟨s1, s2, s3, s4, s5⟩, f1, f2, f3, f4, f5⟩ := x1
  refine ⟨⟨⟨ha, n2, n3, n4, n5⟩, ⟨up_self, by rw [up_off (by omega)]; exact s2, by rw [up_off (by omega)]; exact s3, by rw [up_off (by omega)]; exact s4, by rw [up_off (by omega)]; exact s5⟩, up_self, by rw [up_off (by omega)]; exact f2, by rw [up_off (by omega)]; exact f3, by rw [up_off (by omega)]; exact f4, by rw [up_off (by omega)]; exact f5⟩, FrcR.off (s := va_up s 0 (nI (na + 1))) (f := f) x2 (up_off (by omega)), ?_, x4.off ⟨up_off (by omega), up_off (by omega), up_off (by omega)⟩, x5.off (fun i _ _ => up_off (by omega)), x6.off (fun i _ _ => up_off (by omega)), ?_, x8.off (fun i _ _ => up_off (by omega)), ?_, ?_, x11.off hn.2.2.1 (fun i _ h2 => up_off (by omega))⟩
  · have := IllR.off (s := va_up s 0 (nI (na + 1))) (f := f) (f' := va_up f 0 (nI (na + 1))) x3 (up_off (by omega))
    obtain ⟨q1, b, hb, q2⟩ := this
    exact ⟨q1, b, by rw [Nat.pow_succ]; omega, q2⟩
  · refine UsR.off (f := f) ⟨fun p hp => ?_, x7.2⟩ n2 (fun i _ _ => up_off (by omega))
    obtain ⟨q1, q2⟩ := x7.1 p hp
    exact ⟨q1, q2.imp id (fun ⟨a, h1, h2⟩ => ⟨a, by omega, h2⟩)⟩
  · refine LsR.off (f := f) (fun q hq => ?_) n4 (fun i _ _ => up_off (by omega))
    obtain ⟨a, p, w, hr, ⟨h1, h2⟩, h3⟩ := x9 q hq
    exact ⟨a, p, w, hr, ⟨by omega, h2⟩, h3⟩
  · refine TdR.off (f := f) (fun i hi => ?_) (by omega) (fun i _ _ => up_off (by omega))
    obtain ⟨a, h1, h2⟩ := x10 i hi
    exact ⟨a, by omega, h2⟩
/-- one part more: nobody plays it usually -/
theorem SRv.part (x : SRv s af pf us kn tm lw ls td L n f na np nl ns nt Tl) (hp : np < 8) : SRv (va_up s 1 (nI (np + 1))) af pf us kn tm lw ls td L n (va_up (va_up f (42 + 4 * np + 3) (-1)) 1 (nI (np + 1))) na (np + 1) nl ns nt Tl := by
  obtain ⟨x1, x2, x3, x4, x5, x6, x7, x8, x9, x10, x11⟩ := x
  have hn := x1.1
  obtain ⟨⟨n1, n2, n3, n4, n5⟩, ⟨s1, s2, s3, s4, s5⟩, f1, f2, f3, f4, f5⟩ := x1
  have uo : ∀ j, j ≠ 42 + 4 * np + 3 → j ≠ 1 → va_up (va_up f (42 + 4 * np + 3) (-1)) 1 (nI (np + 1)) j = f j := fun j h1 h2 => by rw [up_off h2, up_off h1]
  refine ⟨⟨⟨n1, hp, n3, n4, by omega⟩, ⟨by rw [up_off (by omega)]; exact s1, up_self, by rw [up_off (by omega)]; exact s3, by rw [up_off (by omega)]; exact s4, by rw [up_off (by omega)]; exact s5⟩, by rw [uo _ (by omega) (by omega)]; exact f1, up_self, by rw [uo _ (by omega) (by omega)]; exact f3, by rw [uo _ (by omega) (by omega)]; exact f4, by rw [uo _ (by omega) (by omega)]; exact f5⟩, FrcR.off (s := va_up s 1 (nI (np + 1))) (f := f) x2 (uo _ (by omega) (by omega)), IllR.off (s := va_up s 1 (nI (np + 1))) (f := f) x3 (uo _ (by omega) (by omega)), x4.off ⟨uo _ (by omega) (by omega), uo _ (by omega) (by omega), uo _ (by omega) (by omega)⟩, x5.off (fun i _ _ => uo _ (by omega) (by omega)), ?_, ?_, x8.off (fun i _ _ => uo _ (by omega) (by omega)), ?_, x10.off (by omega) (fun i _ _ => uo _ (by omega) (by omega)), x11.off hn.2.2.1 (fun i _ h2 => uo _ (by omega) (by omega))⟩
  · intro q hq j hj
    rw [uo _ (by omega) (by omega)]; exact x6 q hq j hj
  · refine ⟨fun q hq => ?_, fun q h1 h2 => x7.2 q (by omega) h2⟩
    by_cases e : q = np
    · subst e
      rw [up_off (by omega), up_self]
      exact ⟨x7.2 q (Nat.le_refl _) hp, Or.inl (x7.2 q (Nat.le_refl _) hp)⟩
    · rw [uo _ (by omega) (by omega)]; exact x7.1 q (by omega)
  · refine LsR.off (f := f) (fun q hq => ?_) n4 (fun i _ _ => uo _ (by omega) (by omega))
    obtain ⟨a, p, w, hr, ⟨h1, h2, h2'⟩, h3⟩ := x9 q hq
    exact ⟨a, p, w, hr, ⟨h1, by omega, h2'⟩, h3⟩
/-- the lessons anew -/
theorem SRv.lessons (x : SRv s af pf us kn tm lw ls td L n f na np nl ns nt Tl) {ls' f' : Nat → Int32} {m : Nat} (hm : m ≤ 7) (hf : ∀ i, i < 138 ∨ 166 ≤ i → i ≠ 8 → f' i = f i) (h8 : f' 8 = nI m) (hl : LsR ls' f' na np m) : SRv (va_up s 12 (nI m)) af pf us kn tm lw ls' td L n f' na np nl m nt Tl := by
  obtain ⟨x1, x2, x3, x4, x5, x6, x7, x8, x9, x10, x11⟩ := x
  have hn := x1.1
  obtain ⟨⟨n1, n2, n3, n4, n5⟩, ⟨s1, s2, s3, s4, s5⟩, f1, f2, f3, f4, f5⟩ := x1
  refine ⟨⟨⟨n1, n2, n3, hm, n5⟩, ⟨by rw [up_off (by omega)]; exact s1, by rw [up_off (by omega)]; exact s2, by rw [up_off (by omega)]; exact s3, up_self, by rw [up_off (by omega)]; exact s5⟩, by rw [hf _ (by omega) (by omega)]; exact f1, by rw [hf _ (by omega) (by omega)]; exact f2, by rw [hf _ (by omega) (by omega)]; exact f3, h8, by rw [hf _ (by omega) (by omega)]; exact f5⟩, FrcR.off (s := va_up s 12 (nI m)) (f := f) x2 (hf _ (by omega) (by omega)), IllR.off (s := va_up s 12 (nI m)) (f := f) x3 (hf _ (by omega) (by omega)), x4.off ⟨hf _ (by omega) (by omega), hf _ (by omega) (by omega), hf _ (by omega) (by omega)⟩, x5.off (fun i _ _ => hf _ (by omega) (by omega)), x6.off (fun i _ _ => hf _ (by omega) (by omega)), x7.off hn.2.1 (fun i _ _ => hf _ (by omega) (by omega)), x8.off (fun i _ _ => hf _ (by omega) (by omega)), hl, x10.off (by omega) (fun i _ _ => hf _ (by omega) (by omega)), x11.off hn.2.2.1 (fun i _ h2 => hf _ (by omega) (by omega))⟩
end UPD2
