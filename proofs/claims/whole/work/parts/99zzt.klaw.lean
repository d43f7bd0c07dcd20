/-! pair law: frames -/
def Kg (S : Nat → Nat → Prop) (h h2 : Hp) : Prop := hN h ≤ hN h2 ∧ ∀ a, a < hN h → hS h2 a = hS h a ∧ ∀ i, ¬ S a i → hI h2 a i = hI h a i ∧ hJ h2 a i = hJ h a i ∧ hR h2 a i = hR h a i
theorem Kp.kg {S : Nat → Nat → Prop} {h h2 : Hp} (k : Kp S h h2) : Kg S h h2 := ⟨by rw [k.2.1]; exact Nat.le_refl _, fun a _ => ⟨k.1 a, fun i hi => k.2.2.1 a i hi⟩⟩
theorem Kg.trans {S : Nat → Nat → Prop} {h h2 h3 : Hp} (a : Kg S h h2) (b : Kg S h2 h3) : Kg S h h3 := by
  refine ⟨Nat.le_trans a.1 b.1, fun x hx => ?_⟩
  obtain ⟨p1, p2⟩ := a.2 x hx
  obtain ⟨q1, q2⟩ := b.2 x (Nat.lt_of_lt_of_le hx a.1)
  exact ⟨q1.trans p1, fun i hi => ⟨(q2 i hi).1.trans (p2 i hi).1, (q2 i hi).2.1.trans (p2 i hi).2.1, (q2 i hi).2.2.trans (p2 i hi).2.2⟩⟩
theorem NwL.kg {S : Nat → Nat → Prop} {h h2 : Hp} {hd pl st : Nat → Int32} {c m : Nat} (n : NwL h h2 hd pl st c m) : Kg S h h2 := by
  obtain ⟨n1, -, -, -, -, -, -, -, -, -, -, n12⟩ := n
  refine ⟨by omega, fun a ha => ⟨(n12 a ha).1, fun i _ => ?_⟩⟩
  rw [(n12 a ha).2.1, (n12 a ha).2.2.1, (n12 a ha).2.2.2]; exact ⟨rfl, rfl, rfl⟩
theorem NwL.wf {h h2 : Hp} {hd pl st : Nat → Int32} {c m : Nat} (n : NwL h h2 hd pl st c m) (w : WF h) : WF h2 := by
  obtain ⟨n1, -, -, -, -, -, -, -, -, -, -, n12⟩ := n
  have wn := w.1
  refine ⟨by omega, fun a ha hb => by rw [(n12 a (by omega)).1]; exact w.2.1 a ha hb, fun a f hf => ?_⟩
  have ha : a < 106 := Nat.lt_of_not_le fun z => hf (rfT_big z)
  rw [(n12 a (by omega)).2.2.2]; exact w.2.2 a f hf
theorem LawR.grow {L L2 : LvT} {n n2 : Nat} {r : Option Nat} {g : Nat → Int32} {T : LawT} (hL : ∀ b, 106 + b < n → L2 b = L b) (hn : n ≤ n2) (x : LawR L n r g T) : LawR L2 n2 r g T := by
  obtain ⟨q, c, m, h1, h2, h3, h4, h5, h6, h7, h8, h9, hs⟩ := x
  have e0 := hL q (by omega)
  have e1 := hL (q + 1) (by omega)
  have e2 := hL (q + 2) (by omega)
  have e3 := hL (q + 3) (by omega)
  exact ⟨q, c, m, h1, by omega, by rw [e0]; exact h3, by rw [e0]; exact h4, by rw [e0]; exact h5, by rw [e0]; exact h6, by rw [e1]; exact h7, by rw [e2]; exact h8, by rw [e3]; exact h9, by rw [e1, e2, e3]; exact hs⟩
section GROW
variable {s af pf us kn tm : Nat → Int32} {lw : Nat → Option Nat} {ls td : Nat → Int32} {L L2 : LvT} {n n2 : Nat} {f : Nat → Int32} {na np nl ns nt : Nat} {Tl : Nat → LawT}
theorem SRv.grow (x : SRv s af pf us kn tm lw ls td L n f na np nl ns nt Tl) (hL : ∀ b, 106 + b < n → L2 b = L b) (hn : n ≤ n2) : SRv s af pf us kn tm lw ls td L2 n2 f na np nl ns nt Tl := by
  obtain ⟨x1, x2, x3, x4, x5, x6, x7, x8, x9, x10, x11⟩ := x
  exact ⟨x1, x2, x3, x4, x5, x6, x7, x8, x9, x10, fun i hi => (x11 i hi).grow hL hn⟩
theorem ImgV.grow {c m : Int32} (x : ImgV c m s af pf us kn tm lw ls td L n f) (hL : ∀ b, 106 + b < n → L2 b = L b) (hn : n ≤ n2) : ImgV c m s af pf us kn tm lw ls td L2 n2 f := by
  refine ⟨x.1, x.2.1, fun e => ?_⟩
  obtain ⟨na, np, nl, ns, nt, Tl, y⟩ := x.2.2 e
  exact ⟨na, np, nl, ns, nt, Tl, y.grow hL hn⟩
theorem SRv.law {s' f' : Nat → Int32} {lw' : Nat → Option Nat} {T : LawT} (x : SRv s af pf us kn tm lw ls td L n f na np nl ns nt Tl) (h6 : nl < 6) (hs9 : s' 9 = nI (nl + 1)) (hs : ∀ i, i ≠ 9 → s' i = s i) (hf2 : f' 2 = nI (nl + 1)) (hf : ∀ i, i ≠ 2 → (i < 180 + 900 * nl ∨ 180 + 900 * nl + 900 ≤ i) → f' i = f i) (hw : ∀ i, i < nl → lw' i = lw i) (hR : LawR L n (lw' nl) (fun k => f' (180 + 900 * nl + k)) T) : SRv s' af pf us kn tm lw' ls td L n f' na np (nl + 1) ns nt (fun i => if i = nl then T else Tl i) := by
  obtain ⟨x1, x2, x3, x4, x5, x6, x7, x8, x9, x10, x11⟩ := x
  have hn := x1.1
  obtain ⟨⟨n1, n2, n3, n4, n5⟩, ⟨s1, s2, s3, s4, s5⟩, f1, f2, f3, f4, f5⟩ := x1
  refine ⟨⟨⟨n1, n2, by omega, n4, n5⟩, ⟨by rw [hs 0 (by omega)]; exact s1, by rw [hs 1 (by omega)]; exact s2, hs9, by rw [hs 12 (by omega)]; exact s4, by rw [hs 14 (by omega)]; exact s5⟩, by rw [hf 0 (by omega) (by omega)]; exact f1, by rw [hf 1 (by omega) (by omega)]; exact f2, hf2, by rw [hf 8 (by omega) (by omega)]; exact f4, by rw [hf 9 (by omega) (by omega)]; exact f5⟩, ?_, ?_, x4.off ⟨hf _ (by omega) (by omega), hf _ (by omega) (by omega), hf _ (by omega) (by omega)⟩, x5.off (fun i _ _ => hf i (by omega) (by omega)), x6.off (fun i _ _ => hf i (by omega) (by omega)), x7.off hn.2.1 (fun i _ _ => hf i (by omega) (by omega)), x8.off (fun i _ _ => hf i (by omega) (by omega)), x9.off hn.2.2.2.1 (fun i _ _ => hf i (by omega) (by omega)), x10.off (by omega) (fun i _ _ => hf i (by omega) (by omega)), fun i hi => ?_⟩
  · unfold FrcR at x2 ⊢
    rw [hs 10 (by omega), hf 3 (by omega) (by omega)]
    refine ⟨x2.1, x2.2.imp id fun ⟨i, h1, h2⟩ => ⟨i, by omega, h2⟩⟩
  · unfold IllR at x3 ⊢
    rw [hs 6 (by omega), hf 4 (by omega) (by omega)]; exact x3
  · show LawR L n (lw' i) _ (if i = nl then T else Tl i)
    by_cases e : i = nl
    · rw [if_pos e, e]; exact hR
    · rw [if_neg e, hw i (by omega)]
      obtain ⟨q, c, m, h1, h2, h3, h4, h5, h6', h7, h8, h9, hq⟩ := x11 i (by omega)
      exact ⟨q, c, m, h1, h2, h3, h4, h5, h6', h7, h8, h9, hq.off fun k hk => hf (180 + 900 * i + k) (by omega) (by omega)⟩
end GROW
abbrev SLw : Nat → Nat → Prop := fun x i => (x = 9 ∧ (i = 4 ∨ i = 6 ∨ i = 9 ∨ i = 10)) ∨ (x = 10 ∧ i = 9) ∨ x = 16 ∨ (40 ≤ x ∧ x ≤ 47) ∨ SLm x i
theorem Inv0.law {h h2 : Hp} {na np nl ns nt na' np' nl' ns' nt' : Nat} {Tl Tl' : Nat → LawT} (I : Inv0 h na np nl ns nt Tl) (G : Kg SLw h h2) (w2 : WF h2) (S : SR0 h2 na' np' nl' ns' nt' Tl') (lw : LwW h2) (t1 : hI h2 9 4 = 0) (t2 : hI h2 79 8 = 0) (m1 : hI h2 9 6 = hI h2 79 13) (m2 : hI h2 9 9 = hI h2 79 1) (m3 : hI h2 47 0 = hI h2 80 1 ∧ hI h2 47 1 = hI h2 80 2 ∧ hI h2 47 2 = hI h2 80 3 ∧ hI h2 47 3 = hI h2 80 5 ∧ hI h2 47 4 = hI h2 80 6) : Inv0 h2 na' np' nl' ns' nt' Tl' := by
  obtain ⟨i1, i2, i3, i4, i5, i6, i7, i8, i9⟩ := I
  have wn := i1.1
  have gI : ∀ a, a < 106 → (∀ i, ¬ SLw a i) → hI h2 a = hI h a := fun a ha hs => funext fun i => ((G.2 a (by omega)).2 i (hs i)).1
  have gJ : ∀ a, a < 106 → (∀ i, ¬ SLw a i) → hJ h2 a = hJ h a := fun a ha hs => funext fun i => ((G.2 a (by omega)).2 i (hs i)).2.1
  have gR : ∀ a, a < 106 → (∀ i, ¬ SLw a i) → hR h2 a = hR h a := fun a ha hs => funext fun i => ((G.2 a (by omega)).2 i (hs i)).2.2
  have gi : ∀ a i, a < 106 → ¬ SLw a i → hI h2 a i = hI h a i := fun a i ha hs => ((G.2 a (by omega)).2 i hs).1
  have hL : ∀ b, 106 + b < hN h → LV h2 b = LV h b := fun b hb => by
    have g := G.2 (106 + b) hb
    have e1 : hI h2 (106 + b) = hI h (106 + b) := funext fun i => (g.2 i (by omega)).1
    have e2 : hR h2 (106 + b) = hR h (106 + b) := funext fun i => (g.2 i (by omega)).2.2
    simp only [LV, g.1, e1, e2]
  refine ⟨w2, ?_, ⟨?_, lw⟩, S, ?_, ?_, ⟨0, by omega, t1, t2, fun j hj => by omega⟩, ?_, ?_⟩
  · unfold ST
    rw [gI 0 (by omega) (by omega), gI 1 (by omega) (by omega), gI 2 (by omega) (by omega), gI 3 (by omega) (by omega), gJ 4 (by omega) (by omega), gI 6 (by omega) (by omega), gR 19 (by omega) (by omega)]; exact i2
  · rw [gJ 90 (by omega) (by omega), gJ 91 (by omega) (by omega)]; exact i3.1
  · rw [gi 38 0 (by omega) (by omega), gi 83 0 (by omega) (by omega), gI 20 (by omega) (by omega), gI 21 (by omega) (by omega), gI 22 (by omega) (by omega), gI 23 (by omega) (by omega), gI 24 (by omega) (by omega), gI 25 (by omega) (by omega), gR 26 (by omega) (by omega), gI 27 (by omega) (by omega), gI 28 (by omega) (by omega), gI 82 (by omega) (by omega)]
    exact i5.grow hL G.1
  · rw [gi 38 1 (by omega) (by omega), gi 83 1 (by omega) (by omega), gI 29 (by omega) (by omega), gI 30 (by omega) (by omega), gI 31 (by omega) (by omega), gI 32 (by omega) (by omega), gI 33 (by omega) (by omega), gI 34 (by omega) (by omega), gR 35 (by omega) (by omega), gI 36 (by omega) (by omega), gI 37 (by omega) (by omega), gI 82 (by omega) (by omega)]
    exact i6.grow hL G.1
  · rw [gi 9 7 (by omega) (by omega), gi 79 6 (by omega) (by omega)]
    exact ⟨m1, i8.2.1, m2, m3⟩
  · rw [gI 74 (by omega) (by omega), gI 75 (by omega) (by omega), gJ 76 (by omega) (by omega), gI 77 (by omega) (by omega), gi 79 52 (by omega) (by omega), gi 79 53 (by omega) (by omega), gi 79 54 (by omega) (by omega), gI 103 (by omega) (by omega), gI 104 (by omega) (by omega)]
    exact i9
