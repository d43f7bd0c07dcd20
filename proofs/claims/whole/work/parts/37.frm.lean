/-! what a call may change: the state (cells 10 .. 18, the row 81), refusals and status, thrown, fresh -/
def Frm (h h2 : Hp) : Prop := (∀ a, (a < 9 ∨ 19 ≤ a) → a ≠ 47 → a ≠ 79 → a ≠ 80 → a ≠ 81 → hI h2 a = hI h a) ∧ (∀ a, hJ h2 a = hJ h a) ∧ (∀ a, a ≠ 16 → hR h2 a = hR h a) ∧ (∀ a, hS h2 a = hS h a) ∧ hN h2 = hN h ∧ (∀ i, i ≠ 9 → i ≠ 10 → hI h2 9 i = hI h 9 i) ∧ (∀ i, i ≠ 0 → i ≠ 1 → hI h2 79 i = hI h 79 i) ∧ (∀ a f, rfT a f ≠ none → hR h2 a f = hR h a f) ∧ hR h2 16 = hR h 16
theorem Frm.refl (h : Hp) : Frm h h := ⟨fun _ _ _ _ _ _ => rfl, fun _ => rfl, fun _ _ => rfl, fun _ => rfl, rfl, fun _ _ _ => rfl, fun _ _ _ => rfl, fun _ _ _ => rfl, rfl⟩
theorem Frm.st {h h2 : Hp} (x : Frm h h2) {a i : Nat} {v : Int32} (ha : (9 < a ∧ a < 19) ∨ a = 81 ∨ a = 47 ∨ a = 80) : Frm h (sI h2 a i v) := by
  obtain ⟨x1, x2, x3, x4, x5, x6, x7, x8⟩ := x
  refine ⟨fun b h1 h2 h3 h4 h5 => ?_, x2, x3, x4, x5, fun j h1 h2 => ?_, fun j h1 h2 => ?_, x8⟩
  · rw [hI_sIr, if_neg (by omega)]; exact x1 b h1 h2 h3 h4 h5
  · rw [hI_sIr, if_neg (by omega)]; exact x6 j h1 h2
  · rw [hI_sIr, if_neg (by omega)]; exact x7 j h1 h2
theorem Frm.w {h h2 : Hp} (x : Frm h h2) {a : Nat} {f : Nat → Int32} (ha : (9 < a ∧ a < 19) ∨ a = 81) : Frm h (wI h2 a f) := by
  obtain ⟨x1, x2, x3, x4, x5, x6, x7, x8⟩ := x
  refine ⟨fun b h1 h2 h3 h4 h5 => ?_, x2, x3, x4, x5, fun j h1 h2 => ?_, fun j h1 h2 => ?_, x8⟩
  · rw [hI_wI, if_neg (by omega)]; exact x1 b h1 h2 h3 h4 h5
  · rw [hI_wI, if_neg (by omega)]; exact x6 j h1 h2
  · rw [hI_wI, if_neg (by omega)]; exact x7 j h1 h2
theorem Frm.c9 {h h2 : Hp} (x : Frm h h2) {i : Nat} {v : Int32} (hi : i = 9 ∨ i = 10) : Frm h (sI h2 9 i v) := by
  obtain ⟨x1, x2, x3, x4, x5, x6, x7, x8⟩ := x
  refine ⟨fun b h1 h2 h3 h4 h5 => ?_, x2, x3, x4, x5, fun j h1 h2 => ?_, fun j h1 h2 => ?_, x8⟩
  · rw [hI_sIr, if_neg (by omega)]; exact x1 b h1 h2 h3 h4 h5
  · rw [hI_sI, if_neg (by omega)]; exact x6 j h1 h2
  · rw [hI_sIr, if_neg (by omega)]; exact x7 j h1 h2
theorem Frm.m79 {h h2 : Hp} (x : Frm h h2) {i : Nat} {v : Int32} (hi : i = 0 ∨ i = 1) : Frm h (sI h2 79 i v) := by
  obtain ⟨x1, x2, x3, x4, x5, x6, x7, x8⟩ := x
  refine ⟨fun b h1 h2 h3 h4 h5 => ?_, x2, x3, x4, x5, fun j h1 h2 => ?_, fun j h1 h2 => ?_, x8⟩
  · rw [hI_sIr, if_neg (by omega)]; exact x1 b h1 h2 h3 h4 h5
  · rw [hI_sIr, if_neg (by omega)]; exact x6 j h1 h2
  · rw [hI_sI, if_neg (by omega)]; exact x7 j h1 h2
theorem Frm.wf {h h2 : Hp} (x : Frm h h2) (w : WF h) : WF h2 := by
  obtain ⟨x1, x2, x3, x4, x5, x6, x7, x8⟩ := x
  exact ⟨by rw [x5]; exact w.1, fun a ha hb => by rw [x4]; exact w.2.1 a ha hb, fun a f hf => by rw [x8.1 a f hf]; exact w.2.2 a f hf⟩
theorem Frm.lv {h h2 : Hp} (x : Frm h h2) : LV h2 = LV h := by
  obtain ⟨x1, x2, x3, x4, x5, x6, x7, x8⟩ := x
  funext a
  simp only [LV, x4, x1 (106 + a) (by omega) (by omega) (by omega) (by omega) (by omega), x3 (106 + a) (by omega)]
/-- what the class keeps beside: the cells 48 .. 73, fresh, the first night; what it rests on: the row, but for how many are told -/
def SameC (h h2 : Hp) : Prop := hI h2 9 10 = hI h 9 10 ∧ hJ h2 9 18 = hJ h 9 18 ∧ (∀ a, 48 ≤ a → a < 74 → hI h2 a = hI h a ∧ hJ h2 a = hJ h a ∧ hR h2 a = hR h a) ∧ ∀ i, i ≠ 9 → hI h2 81 i = hI h 81 i
theorem SameC.refl (h : Hp) : SameC h h := ⟨rfl, rfl, fun _ _ _ => ⟨rfl, rfl, rfl⟩, fun _ _ => rfl⟩
theorem SameC.trans {h h2 h3 : Hp} (a : SameC h h2) (b : SameC h2 h3) : SameC h h3 := ⟨b.1.trans a.1, b.2.1.trans a.2.1, fun i h1 h2 => ⟨(b.2.2.1 i h1 h2).1.trans (a.2.2.1 i h1 h2).1, (b.2.2.1 i h1 h2).2.1.trans (a.2.2.1 i h1 h2).2.1, (b.2.2.1 i h1 h2).2.2.trans (a.2.2.1 i h1 h2).2.2⟩, fun i hi => (b.2.2.2 i hi).trans (a.2.2.2 i hi)⟩
/-- what holds behind a call of both -/
def Nx (h h2 : Hp) (na np nl ns nt : Nat) (Tl : Nat → LawT) : Prop := (∃ (na' np' nl' ns' nt' : Nat) (Tl' : Nat → LawT), Inv0 h2 na' np' nl' ns' nt' Tl' ∧ hI h2 9 10 = 0) ∨ ∃ nt' : Nat, Inv0 h2 na np nl ns nt' Tl ∧ SameC h h2
theorem ST.frm {h h2 : Hp} (x : Frm h h2) (s : ST h) : ST h2 := by
  unfold ST at s ⊢
  rw [x.1 0 (by omega) (by omega) (by omega) (by omega) (by omega), x.1 1 (by omega) (by omega) (by omega) (by omega) (by omega), x.1 2 (by omega) (by omega) (by omega) (by omega) (by omega), x.1 3 (by omega) (by omega) (by omega) (by omega) (by omega), x.2.1 4, x.1 6 (by omega) (by omega) (by omega) (by omega) (by omega), x.2.2.1 19 (by omega)]
  exact s
theorem MCo.frm {h h2 : Hp} (x : Frm h h2) (s : MCo h) : MCo h2 := by
  refine ⟨?_, s.2.of x.2.2.2.2.2.2.2.2 (x.2.2.1 26 (by omega)) (x.2.2.1 35 (by omega)) x.2.2.2.1 x.2.2.2.2.1⟩
  have := s.1
  rw [x.2.1 90, x.2.1 91]
  exact this
/-- all but the state itself, status and refusals goes through a frame -/
theorem Inv0.frm {h h2 : Hp} {na np nl ns nt na' np' nl' ns' nt' : Nat} {Tl Tl' : Nat → LawT} (I : Inv0 h na np nl ns nt Tl) (x : Frm h h2) (S : SR0 h2 na' np' nl' ns' nt' Tl') (hs : hI h2 9 9 = hI h2 79 1) (hr : hI h2 47 0 = hI h2 80 1 ∧ hI h2 47 1 = hI h2 80 2 ∧ hI h2 47 2 = hI h2 80 3 ∧ hI h2 47 3 = hI h2 80 5 ∧ hI h2 47 4 = hI h2 80 6) : Inv0 h2 na' np' nl' ns' nt' Tl' := by
  obtain ⟨i1, i2, i3, i4, i5, i6, i7, i8, i9⟩ := I
  have e := x.1
  have e9 := x.2.2.2.2.2.1
  have e79 := x.2.2.2.2.2.2.1
  refine ⟨x.wf i1, i2.frm x, i3.frm x, S, ?_, ?_, ?_, ?_, ?_⟩
  · rw [x.lv, x.2.2.2.2.1, e 38 (by omega) (by omega) (by omega) (by omega) (by omega), e 83 (by omega) (by omega) (by omega) (by omega) (by omega), e 20 (by omega) (by omega) (by omega) (by omega) (by omega), e 21 (by omega) (by omega) (by omega) (by omega) (by omega), e 22 (by omega) (by omega) (by omega) (by omega) (by omega), e 23 (by omega) (by omega) (by omega) (by omega) (by omega), e 24 (by omega) (by omega) (by omega) (by omega) (by omega), e 25 (by omega) (by omega) (by omega) (by omega) (by omega), x.2.2.1 26 (by omega), e 27 (by omega) (by omega) (by omega) (by omega) (by omega), e 28 (by omega) (by omega) (by omega) (by omega) (by omega), e 82 (by omega) (by omega) (by omega) (by omega) (by omega)]
    exact i5
  · rw [x.lv, x.2.2.2.2.1, e 38 (by omega) (by omega) (by omega) (by omega) (by omega), e 83 (by omega) (by omega) (by omega) (by omega) (by omega), e 29 (by omega) (by omega) (by omega) (by omega) (by omega), e 30 (by omega) (by omega) (by omega) (by omega) (by omega), e 31 (by omega) (by omega) (by omega) (by omega) (by omega), e 32 (by omega) (by omega) (by omega) (by omega) (by omega), e 33 (by omega) (by omega) (by omega) (by omega) (by omega), e 34 (by omega) (by omega) (by omega) (by omega) (by omega), x.2.2.1 35 (by omega), e 36 (by omega) (by omega) (by omega) (by omega) (by omega), e 37 (by omega) (by omega) (by omega) (by omega) (by omega), e 82 (by omega) (by omega) (by omega) (by omega) (by omega)]
    exact i6
  · rw [e9 4 (by omega) (by omega), e79 8 (by omega) (by omega), e 39 (by omega) (by omega) (by omega) (by omega) (by omega), e 84 (by omega) (by omega) (by omega) (by omega) (by omega)]
    exact i7
  · rw [e9 6 (by omega) (by omega), e9 7 (by omega) (by omega), e79 13 (by omega) (by omega), e79 6 (by omega) (by omega)]
    exact ⟨i8.1, i8.2.1, hs, hr⟩
  · rw [e 74 (by omega) (by omega) (by omega) (by omega) (by omega), e 75 (by omega) (by omega) (by omega) (by omega) (by omega), x.2.1 76, e 77 (by omega) (by omega) (by omega) (by omega) (by omega), e79 52 (by omega) (by omega), e79 53 (by omega) (by omega), e79 54 (by omega) (by omega), e 103 (by omega) (by omega) (by omega) (by omega) (by omega), e 104 (by omega) (by omega) (by omega) (by omega) (by omega)]
    exact i9
/-- behind an accepted call -/
theorem nx_acc {h h2 : Hp} {na np nl ns nt na' np' nl' ns' nt' : Nat} {Tl Tl' : Nat → LawT} (I : Inv0 h na np nl ns nt Tl) (x : Frm h h2) (S : SR0 h2 na' np' nl' ns' nt' Tl') (h1 : hI h2 9 9 = 0) (h2' : hI h2 79 1 = 0) (h3 : hI h2 9 10 = 0) (h47 : hI h2 47 = hI h 47) (h80 : hI h2 80 = hI h 80) : Nx h h2 na np nl ns nt Tl :=
  Or.inl ⟨_, _, _, _, _, _, I.frm x S (by rw [h1, h2']) (by rw [h47, h80]; exact I.2.2.2.2.2.2.2.1.2.2.2), h3⟩
def refs3 : List (Int32 × Nat × Nat) := [(-1, 0, 1), (-2, 1, 2), (-3, 2, 3), (-5, 3, 5), (-6, 4, 6)]
/-- the heap behind a refused call: the class, the reference -/
def refC (h : Hp) (v : Int32) (k : Nat) : Hp := sI (sI h 9 9 v) 47 k (hI h 47 k + 1)
def refM (h : Hp) (v : Int32) (k : Nat) : Hp := sI (sI (sI h 79 0 0) 79 1 v) 80 k (hI h 80 k + 1)
theorem nx_ref {h : Hp} {na np nl ns nt : Nat} {Tl : Nat → LawT} (I : Inv0 h na np nl ns nt Tl) {v : Int32} {k k' : Nat} (hv : (v, k, k') ∈ refs3) : Nx h (refM (refC h v k) v k') na np nl ns nt Tl := by
  have x : Frm h (refM (refC h v k) v k') := ((((((Frm.refl h).c9 (Or.inl rfl)).st (Or.inr (Or.inr (Or.inl rfl)))).m79 (Or.inl rfl)).m79 (Or.inr rfl)).st (Or.inr (Or.inr (Or.inr rfl))))
  have ec : ∀ a, 48 ≤ a → a < 74 → hI (refM (refC h v k) v k') a = hI h a := fun a h1 h2 => x.1 a (by omega) (by omega) (by omega) (by omega) (by omega)
  refine Or.inr ⟨nt, I.frm x ?_ ?_ ?_, ?_, rfl, fun a h1 h2 => ⟨ec a h1 h2, rfl, rfl⟩, fun i _ => rfl⟩
  · show SRv _ _ _ _ _ _ _ _ _ (LV (refM (refC h v k) v k')) _ _ _ _ _ _ _ _
    rw [x.lv]
    exact I.2.2.2.1
  · simp [refM, refC, hI_sI]
  · obtain ⟨-, -, -, -, -, -, -, i8, -⟩ := I
    obtain ⟨-, -, -, r0, r1, r2, r3, r4⟩ := i8
    simp only [refs3, List.mem_cons, Prod.mk.injEq, List.not_mem_nil, or_false] at hv
    rcases hv with ⟨rfl, rfl, rfl⟩ | ⟨rfl, rfl, rfl⟩ | ⟨rfl, rfl, rfl⟩ | ⟨rfl, rfl, rfl⟩ | ⟨rfl, rfl, rfl⟩ <;> simp [refM, refC, hI_sI, r0, r1, r2, r3, r4]
  · simp [refM, refC, hI_sI]
