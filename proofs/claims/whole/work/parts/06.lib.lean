section LIB
variable {l : Launch} {E : Ev} {Y Y' : My} {d d' mc ms mc' ms' cells slots pc : Nat} {Q : Option Value → Hp → Prop} {k kt kf : Kt}

theorem W_copyI {p : Program} {e : Env} {R : Room} {s : State} {m : MethodId} {args : Array Value} {below : List Frame} {meth : Method} {c : Code} {H H0 : Heap} {locs : List Loc} {Q : State → Prop} {cc : ByteArray} {ls : Array Slot} {rest : List Value} {A : Nat → Prop} {a : Nat} (hexec : p.tables.exec = Jvm.exec) (hb : c.code = cc) (hml : c.maxLocals = ls.size) {own : String} {index : Nat} (hown : s.vm.findClass own = some m.cls) (hlink : (Cond.methodLink own index arraycopyName).before args s = true) (hnat : (Cond.native arraycopyName).before args s = true) (hstat : (Cond.static arraycopyName).before args s = true) (hini : (Cond.initialized "java/lang/System").before args s = true)
    (hS : va_S A H0 H locs) (hAa : A a) {a0 : Nat} {c0 c1 : ClassId} {n0 n1 : Nat} {f g : Nat → Int32} {ty : FieldType} (hc0 : H[a0]? = some (vp_cell c0 (n0, .inl f))) (hc1 : H[a]? = some (vp_cell c1 (n1, .inl g))) (ht0 : ArrOfT s c0 ty) (ht1 : ArrOfT s c1 ty) (hprim : refKind ty = false)
    {sp dp n : Int32} (h1 : ¬ sp < 0) (h2 : ¬ dp < 0) (h3 : ¬ n < 0) (h4 : sp.toNatClampNeg + n.toNatClampNeg ≤ n0) (h5 : dp.toNatClampNeg + n.toNatClampNeg ≤ n1) (hfit : ∀ i, i < n.toNatClampNeg → fits ty (.int (f (sp.toNatClampNeg + i))) = true)
    (hframes : 1 ≤ R.frames) (hlocals : (rest.map fun v => v.category).sum + (nativeFrameWords "java/lang/System" "arraycopy" 5 + 11) ≤ R.locals) (hdg : decode cc pc = .ok (.invokestatic index, 3))
    (kk : ∀ (H1 : Heap) (locs1 : List Loc), H1[a]? = some (vp_cell c1 (n1, .inl (va_cpy f g sp.toNatClampNeg dp.toNatClampNeg n.toNatClampNeg))) → H1.size = H.size → (∀ q, q ≠ a → H1[q]? = H[q]?) → va_S A H0 H1 locs1 → W p l e R s m args below meth c H1 locs1 cells slots Q (F0 m (pc + 3) ls rest)) : W p l e R s m args below meth c H locs cells slots Q (F0 m pc ls (.int n :: .int dp :: .ref a :: .int sp :: .ref a0 :: rest)) := by
  have nn : ∀ z : Int32, ¬ z < 0 → z.toInt = (z.toNatClampNeg : Int) := by
    intro z hz
    have hz0 : (0 : Int) ≤ z.toInt := by
      have := Int32.not_lt.mp hz
      simpa using Int32.le_iff_toInt_le.mp this
    show z.toInt = ((z.toInt.toNat : Nat) : Int)
    omega
  intro T hT X
  obtain ⟨-, k0, hk0, cm0, hkk0⟩ := ht0 n0 (fun j => .int (f j))
  obtain ⟨-, k1, hk1, cm1, hkk1⟩ := ht1 n1 (fun j => .int (g j))
  obtain ⟨vm', X', step⟩ := X.arraycopy hexec hown hlink hnat hstat hini (src := a0) (dst := a) (cs := vp_cell c0 (n0, .inl f)) (cd := vp_cell c1 (n1, .inl g)) (srcPos := sp) (destPos := dp) (n := n) (by rw [hT]; exact hc0) (by rw [hT]; exact hc1)
    (fun _ h => by cases h) (fun _ h => by cases h) (fun h => by cases h) (fun h => by cases h) hk0 hk1 hkk0 hkk1 (by simp [hprim]) h1 h2 h3
    (by rw [nn sp h1, nn n h3]; show ¬ _ > ((arrV c0 n0 (fun j => .int (f j))).slots.size : Int); rw [arrV_size]; omega)
    (by rw [nn dp h2, nn n h3]; show ¬ _ > ((arrV c1 n1 (fun j => .int (g j))).slots.size : Int); rw [arrV_size]; omega)
    (fun vm₁ _ i hi => by
      have e : (vp_cell c0 (n0, .inl f)).slots.getD (sp.toNatClampNeg + i) .null = .int (f (sp.toNatClampNeg + i)) := by
        show (arrV c0 n0 (fun j => .int (f j))).slots.getD _ _ = _
        rw [Array.getD_eq_getD_getElem?, arrV_read _ _ (by omega)]
        rfl
      refine ⟨?_, ?_⟩
      · rw [e]
        exact hfit i hi
      · rw [e]
        exact trivial)
    (g := F0 m pc ls (.int n :: .int dp :: .ref a :: .int sp :: .ref a0 :: rest)) rfl (by rw [hml]) (rest := rest) rfl (by rw [hb]; exact hdg) hframes (by show 2 * 0 + _ + _ ≤ _; omega)
  have e1 : copied (vp_cell c0 (n0, .inl f)) (vp_cell c1 (n1, .inl g)) sp dp n = vp_cell c1 (n1, .inl (va_cpy f g sp.toNatClampNeg dp.toNatClampNeg n.toNatClampNeg)) := va_copied (fun z => .int z) c0 c1 f g h4
  rw [e1] at X' step
  have hl : a < H.size := (Array.getElem?_eq_some_iff.mp hc1).1
  have hheap : ((T.setVm vm').setCell a (vp_cell c1 (n1, .inl (va_cpy f g sp.toNatClampNeg dp.toNatClampNeg n.toNatClampNeg)))).heap = H.setIfInBounds a (vp_cell c1 (n1, .inl (va_cpy f g sp.toNatClampNeg dp.toNatClampNeg n.toNatClampNeg))) := by rw [← hT]; rfl
  have oq : ∀ q : Nat, q ≠ a → (H.setIfInBounds a (vp_cell c1 (n1, .inl (va_cpy f g sp.toNatClampNeg dp.toNatClampNeg n.toNatClampNeg))))[q]? = H[q]? := fun q hq => by simp [Array.getElem?_setIfInBounds, Ne.symm hq]
  obtain ⟨t, a1, b1⟩ := kk _ _ (show (H.setIfInBounds a _)[a]? = some _ by simp [Array.getElem?_setIfInBounds, hl]) (by simp) oq ⟨by simp; exact hS.1, fun q g1 g2 => by
      rw [oq q (fun e => g2 (by rw [e]; exact hAa))]
      exact hS.2.1 q g1 g2, fun q hq => by
      rcases List.mem_append.mp hq with h | h
      · exact hS.2.2 q h
      · obtain ⟨z, -, hz⟩ := List.mem_map.mp h
        rw [← hz]
        exact hAa⟩ _ hheap X'
  exact ⟨t, step t a1, b1⟩
def k_copyI (k : Kt) (ls : Lv) (st : List Value) (h : Hp) : Prop := match st with
  | .int n :: .int dp :: .ref a :: .int sp :: .ref b :: r => 9 ≤ a ∧ 9 ≤ b ∧ (hS h a).1 = 1 ∧ (hS h b).1 = 1 ∧ ¬ sp < 0 ∧ ¬ dp < 0 ∧ ¬ n < 0 ∧ sp.toNatClampNeg + n.toNatClampNeg ≤ (hS h b).2 ∧ dp.toNatClampNeg + n.toNatClampNeg ≤ (hS h a).2 ∧ catS r ≤ 8 ∧ k ls r (wI h a (va_cpy (hI h b) (hI h a) sp.toNatClampNeg dp.toNatClampNeg n.toNatClampNeg))
  | _ => False
theorem sd_copyI {i : Nat} (m1 : Cond.methodLink Y.1.cls i arraycopyName ∈ lw_tbl) (m2 : Cond.native arraycopyName ∈ lw_tbl) (m3 : Cond.static arraycopyName ∈ lw_tbl) (m4 : Cond.initialized "java/lang/System" ∈ lw_tbl) (hdd : 1 ≤ d) (hd : decode Y.2.1 pc = .ok (.invokestatic i, 3)) (hk : Sd l E Y d mc ms Q cells slots (pc + 3) k) : Sd l E Y d mc ms Q cells slots pc (k_copyI k) := by
  intro ls st h hK p e s m args below meth c C H locs lsm rp sv hL
  unfold k_copyI at hK
  split at hK
  · rename_i n dp a sp b r
    obtain ⟨ha, hb8, hsa, hsb, g1, g2, g3, g4, g5, hcat, hK⟩ := hK
    have hnf : nativeFrameWords "java/lang/System" "arraycopy" 5 + 11 + 8 ≤ 64 := by decide +kernel
    have ek := C.2.2.2.2.2.2.2.1
    have hA := rp.at (p := a) (by rw [hsa]; simp) ha
    rw [cell_1 (n := (hS h a).2) (Prod.ext hsa rfl)] at hA
    have hB := rp.at (p := b) (by rw [hsb]; simp) hb8
    rw [cell_1 (n := (hS h b).2) (Prod.ext hsb rfl)] at hB
    refine W_copyI (A := frE E) (ty := .int) C.1 C.2.1 (C.2.2.2.1.trans hL.1.symm) C.2.2.2.2.1 (C.w m1 rfl) (C.w m2 rfl) (C.w m3 rfl) (C.w m4 rfl) sv (by show E.1 ≤ _; rw [ad_own ha]; omega) hB hA (ek.1.2 0 _ rfl).1 (ek.1.2 0 _ rfl).1 rfl g1 g2 g3 g4 g5 (fun i _ => rfl) hdd (by rw [catS_mv]; show _ ≤ 64 * d; omega) hd fun H1 locs1 e1 e2 e3 e4 => ?_
    refine hk _ _ _ hK p e s m args below meth c C H1 locs1 lsm (rp.put ek.2.1 ha (fun _ => rfl) rfl (fun q hq => ?_) e2 e3 ?_) e4 hL
    · simp [wI, hI, hJ, hR, va_up, hq]
    · rw [cell_1 (n := (hS h a).2) (by exact Prod.ext hsa rfl)]
      show H1[ad E a]? = some (vp_cell _ _)
      rw [e1, hI_wI, if_pos rfl]
  · exact hK.elim
theorem W_copyJ {p : Program} {e : Env} {R : Room} {s : State} {m : MethodId} {args : Array Value} {below : List Frame} {meth : Method} {c : Code} {H H0 : Heap} {locs : List Loc} {Q : State → Prop} {cc : ByteArray} {ls : Array Slot} {rest : List Value} {A : Nat → Prop} {a : Nat} (hexec : p.tables.exec = Jvm.exec) (hb : c.code = cc) (hml : c.maxLocals = ls.size) {own : String} {index : Nat} (hown : s.vm.findClass own = some m.cls) (hlink : (Cond.methodLink own index arraycopyName).before args s = true) (hnat : (Cond.native arraycopyName).before args s = true) (hstat : (Cond.static arraycopyName).before args s = true) (hini : (Cond.initialized "java/lang/System").before args s = true)
    (hS : va_S A H0 H locs) (hAa : A a) {a0 : Nat} {c0 c1 : ClassId} {n0 n1 : Nat} {f g : Nat → Int64} {ty : FieldType} (hc0 : H[a0]? = some (vp_cell c0 (n0, .inr (.inl f)))) (hc1 : H[a]? = some (vp_cell c1 (n1, .inr (.inl g)))) (ht0 : ArrOfT s c0 ty) (ht1 : ArrOfT s c1 ty) (hprim : refKind ty = false)
    {sp dp n : Int32} (h1 : ¬ sp < 0) (h2 : ¬ dp < 0) (h3 : ¬ n < 0) (h4 : sp.toNatClampNeg + n.toNatClampNeg ≤ n0) (h5 : dp.toNatClampNeg + n.toNatClampNeg ≤ n1) (hfit : ∀ i, i < n.toNatClampNeg → fits ty (.long (f (sp.toNatClampNeg + i))) = true)
    (hframes : 1 ≤ R.frames) (hlocals : (rest.map fun v => v.category).sum + (nativeFrameWords "java/lang/System" "arraycopy" 5 + 11) ≤ R.locals) (hdg : decode cc pc = .ok (.invokestatic index, 3))
    (kk : ∀ (H1 : Heap) (locs1 : List Loc), H1[a]? = some (vp_cell c1 (n1, .inr (.inl (va_cpy f g sp.toNatClampNeg dp.toNatClampNeg n.toNatClampNeg)))) → H1.size = H.size → (∀ q, q ≠ a → H1[q]? = H[q]?) → va_S A H0 H1 locs1 → W p l e R s m args below meth c H1 locs1 cells slots Q (F0 m (pc + 3) ls rest)) : W p l e R s m args below meth c H locs cells slots Q (F0 m pc ls (.int n :: .int dp :: .ref a :: .int sp :: .ref a0 :: rest)) := by
  have nn : ∀ z : Int32, ¬ z < 0 → z.toInt = (z.toNatClampNeg : Int) := by
    intro z hz
    have hz0 : (0 : Int) ≤ z.toInt := by
      have := Int32.not_lt.mp hz
      simpa using Int32.le_iff_toInt_le.mp this
    show z.toInt = ((z.toInt.toNat : Nat) : Int)
    omega
  intro T hT X
  obtain ⟨-, k0, hk0, cm0, hkk0⟩ := ht0 n0 (fun j => .long (f j))
  obtain ⟨-, k1, hk1, cm1, hkk1⟩ := ht1 n1 (fun j => .long (g j))
  obtain ⟨vm', X', step⟩ := X.arraycopy hexec hown hlink hnat hstat hini (src := a0) (dst := a) (cs := vp_cell c0 (n0, .inr (.inl f))) (cd := vp_cell c1 (n1, .inr (.inl g))) (srcPos := sp) (destPos := dp) (n := n) (by rw [hT]; exact hc0) (by rw [hT]; exact hc1)
    (fun _ h => by cases h) (fun _ h => by cases h) (fun h => by cases h) (fun h => by cases h) hk0 hk1 hkk0 hkk1 (by simp [hprim]) h1 h2 h3
    (by rw [nn sp h1, nn n h3]; show ¬ _ > ((arrV c0 n0 (fun j => .long (f j))).slots.size : Int); rw [arrV_size]; omega)
    (by rw [nn dp h2, nn n h3]; show ¬ _ > ((arrV c1 n1 (fun j => .long (g j))).slots.size : Int); rw [arrV_size]; omega)
    (fun vm₁ _ i hi => by
      have e : (vp_cell c0 (n0, .inr (.inl f))).slots.getD (sp.toNatClampNeg + i) .null = .long (f (sp.toNatClampNeg + i)) := by
        show (arrV c0 n0 (fun j => .long (f j))).slots.getD _ _ = _
        rw [Array.getD_eq_getD_getElem?, arrV_read _ _ (by omega)]
        rfl
      refine ⟨?_, ?_⟩
      · rw [e]
        exact hfit i hi
      · rw [e]
        exact trivial)
    (g := F0 m pc ls (.int n :: .int dp :: .ref a :: .int sp :: .ref a0 :: rest)) rfl (by rw [hml]) (rest := rest) rfl (by rw [hb]; exact hdg) hframes (by show 2 * 0 + _ + _ ≤ _; omega)
  have e1 : copied (vp_cell c0 (n0, .inr (.inl f))) (vp_cell c1 (n1, .inr (.inl g))) sp dp n = vp_cell c1 (n1, .inr (.inl (va_cpy f g sp.toNatClampNeg dp.toNatClampNeg n.toNatClampNeg))) := va_copied (fun z => .long z) c0 c1 f g h4
  rw [e1] at X' step
  have hl : a < H.size := (Array.getElem?_eq_some_iff.mp hc1).1
  have hheap : ((T.setVm vm').setCell a (vp_cell c1 (n1, .inr (.inl (va_cpy f g sp.toNatClampNeg dp.toNatClampNeg n.toNatClampNeg))))).heap = H.setIfInBounds a (vp_cell c1 (n1, .inr (.inl (va_cpy f g sp.toNatClampNeg dp.toNatClampNeg n.toNatClampNeg)))) := by rw [← hT]; rfl
  have oq : ∀ q : Nat, q ≠ a → (H.setIfInBounds a (vp_cell c1 (n1, .inr (.inl (va_cpy f g sp.toNatClampNeg dp.toNatClampNeg n.toNatClampNeg)))))[q]? = H[q]? := fun q hq => by simp [Array.getElem?_setIfInBounds, Ne.symm hq]
  obtain ⟨t, a1, b1⟩ := kk _ _ (show (H.setIfInBounds a _)[a]? = some _ by simp [Array.getElem?_setIfInBounds, hl]) (by simp) oq ⟨by simp; exact hS.1, fun q g1 g2 => by
      rw [oq q (fun e => g2 (by rw [e]; exact hAa))]
      exact hS.2.1 q g1 g2, fun q hq => by
      rcases List.mem_append.mp hq with h | h
      · exact hS.2.2 q h
      · obtain ⟨z, -, hz⟩ := List.mem_map.mp h
        rw [← hz]
        exact hAa⟩ _ hheap X'
  exact ⟨t, step t a1, b1⟩
def k_copyJ (k : Kt) (ls : Lv) (st : List Value) (h : Hp) : Prop := match st with
  | .int n :: .int dp :: .ref a :: .int sp :: .ref b :: r => 9 ≤ a ∧ 9 ≤ b ∧ (hS h a).1 = 2 ∧ (hS h b).1 = 2 ∧ ¬ sp < 0 ∧ ¬ dp < 0 ∧ ¬ n < 0 ∧ sp.toNatClampNeg + n.toNatClampNeg ≤ (hS h b).2 ∧ dp.toNatClampNeg + n.toNatClampNeg ≤ (hS h a).2 ∧ catS r ≤ 8 ∧ k ls r (wJ h a (va_cpy (hJ h b) (hJ h a) sp.toNatClampNeg dp.toNatClampNeg n.toNatClampNeg))
  | _ => False
theorem sd_copyJ {i : Nat} (m1 : Cond.methodLink Y.1.cls i arraycopyName ∈ lw_tbl) (m2 : Cond.native arraycopyName ∈ lw_tbl) (m3 : Cond.static arraycopyName ∈ lw_tbl) (m4 : Cond.initialized "java/lang/System" ∈ lw_tbl) (hdd : 1 ≤ d) (hd : decode Y.2.1 pc = .ok (.invokestatic i, 3)) (hk : Sd l E Y d mc ms Q cells slots (pc + 3) k) : Sd l E Y d mc ms Q cells slots pc (k_copyJ k) := by
  intro ls st h hK p e s m args below meth c C H locs lsm rp sv hL
  unfold k_copyJ at hK
  split at hK
  · rename_i n dp a sp b r
    obtain ⟨ha, hb8, hsa, hsb, g1, g2, g3, g4, g5, hcat, hK⟩ := hK
    have hnf : nativeFrameWords "java/lang/System" "arraycopy" 5 + 11 + 8 ≤ 64 := by decide +kernel
    have ek := C.2.2.2.2.2.2.2.1
    have hA := rp.at (p := a) (by rw [hsa]; simp) ha
    rw [cell_2 (n := (hS h a).2) (Prod.ext hsa rfl)] at hA
    have hB := rp.at (p := b) (by rw [hsb]; simp) hb8
    rw [cell_2 (n := (hS h b).2) (Prod.ext hsb rfl)] at hB
    refine W_copyJ (A := frE E) (ty := .long) C.1 C.2.1 (C.2.2.2.1.trans hL.1.symm) C.2.2.2.2.1 (C.w m1 rfl) (C.w m2 rfl) (C.w m3 rfl) (C.w m4 rfl) sv (by show E.1 ≤ _; rw [ad_own ha]; omega) hB hA (ek.1.2 1 _ rfl).1 (ek.1.2 1 _ rfl).1 rfl g1 g2 g3 g4 g5 (fun i _ => rfl) hdd (by rw [catS_mv]; show _ ≤ 64 * d; omega) hd fun H1 locs1 e1 e2 e3 e4 => ?_
    refine hk _ _ _ hK p e s m args below meth c C H1 locs1 lsm (rp.put ek.2.1 ha (fun _ => rfl) rfl (fun q hq => ?_) e2 e3 ?_) e4 hL
    · simp [wJ, hI, hJ, hR, va_up, hq]
    · rw [cell_2 (n := (hS h a).2) (by exact Prod.ext hsa rfl)]
      show H1[ad E a]? = some (vp_cell _ _)
      rw [e1, hJ_wJ, if_pos rfl]
  · exact hK.elim
/-! static fields -/
theorem W_gets {p : Program} {e : Env} {R : Room} {s : State} {m : MethodId} {args : Array Value} {below : List Frame} {meth : Method} {c : Code} {H : Heap} {locs : List Loc} {Q : State → Prop} {cc : ByteArray} {ls : Array Slot} {rest : List Value} {A : Nat → Prop} (hexec : p.tables.exec = Jvm.exec) (hb : c.code = cc) {Cn n ds own : String} {v : Value} {index : Nat} (hZ : va_Z Cn n ds v A s H) (hown : s.vm.findClass own = some m.cls) (hlink : (Cond.fieldLink own index Cn n ds).before args s = true) (hdg : decode cc pc = .ok (.getstatic index, 3))
    (kk : W p l e R s m args below meth c H locs cells slots Q (F0 m (pc + 3) ls (v :: rest))) : W p l e R s m args below meth c H locs cells slots Q (F0 m pc ls rest) := by
  obtain ⟨cf, kf, fi, f, a, cell, h1, h2, h3, h4, h5, h6, h7, h8⟩ := hZ
  exact W.gets hexec hb hown hlink h1 h2 h3 h4 h5 (fun e => by rw [e] at h6; cases h6) h7 rfl hdg kk
def k_gets (q : Nat) (k : Kt) (ls : Lv) (st : List Value) (h : Hp) : Prop := k ls (.ref q :: st) h
theorem sd_gets {i q : Nat} {Cn n ds : String} (hq : (Cn, n, ds, q) ∈ statL) (hq8 : q < 9) (m1 : Cond.fieldLink Y.1.cls i Cn n ds ∈ lw_tbl) (hd : decode Y.2.1 pc = .ok (.getstatic i, 3)) (hk : Sd l E Y d mc ms Q cells slots (pc + 3) k) : Sd l E Y d mc ms Q cells slots pc (k_gets q k) := by
  intro ls st h hK p e s m args below meth c C H locs lsm rp sv hL
  have w := hk _ _ _ hK p e s m args below meth c C H locs lsm rp sv hL
  have hz := rp.2.2.2.2.2.1 _ hq
  dsimp only at hz
  rw [← ad_st hq8] at hz
  exact W_gets C.1 C.2.1 hz C.2.2.2.2.1 (C.w m1 rfl) hd w
def k_getsC (k : Kt) (ls : Lv) (st : List Value) (h : Hp) : Prop := k ls (.int 1 :: st) h
theorem sd_getsC {i : Nat} (m1 : Cond.fieldLink Y.1.cls i "java/lang/String" "COMPACT_STRINGS" "Z" ∈ lw_tbl) (hd : decode Y.2.1 pc = .ok (.getstatic i, 3)) (hk : Sd l E Y d mc ms Q cells slots (pc + 3) k) : Sd l E Y d mc ms Q cells slots pc (k_getsC k) := by
  intro ls st h hK p e s m args below meth c C H locs lsm rp sv hL
  exact W_gets C.1 C.2.1 rp.2.2.2.2.2.2.1 C.2.2.2.2.1 (C.w m1 rfl) hd (hk _ _ _ hK p e s m args below meth c C H locs lsm rp sv hL)
def k_getsF (k : Kt) (ls : Lv) (st : List Value) (h : Hp) : Prop := k ls (rfv (hR h 7 0) :: st) h
theorem sd_getsF {i : Nat} (m1 : Cond.fieldLink Y.1.cls i "jdk/internal/util/Preconditions" "SIOOBE_FORMATTER" "Ljava/util/function/BiFunction;" ∈ lw_tbl) (hd : decode Y.2.1 pc = .ok (.getstatic i, 3)) (hk : Sd l E Y d mc ms Q cells slots (pc + 3) k) : Sd l E Y d mc ms Q cells slots pc (k_getsF k) := by
  intro ls st h hK p e s m args below meth c C H locs lsm rp sv hL
  have w := hk _ _ _ hK p e s m args below meth c C H locs lsm rp sv hL
  rw [List.map_cons, mv_rfv] at w
  exact W_gets C.1 C.2.1 rp.2.2.2.2.2.2.2.1 C.2.2.2.2.1 (C.w m1 rfl) hd w
/-! the reader's words -/
def k_ldcS (k : Kt) (ls : Lv) (st : List Value) (h : Hp) : Prop := k ls (.ref 5 :: st) h
theorem sd_ldcS (hY : Y.1.cls = RX5) (hd : decode Y.2.1 pc = .ok (.ldc 96, 2)) (hk : Sd l E Y d mc ms Q cells slots (pc + 2) k) : Sd l E Y d mc ms Q cells slots pc (k_ldcS k) := by
  intro ls st h hK p e s m args below meth c C H locs lsm rp sv hL
  have w := hk _ _ _ hK p e s m args below meth c C H locs lsm rp sv hL
  exact va_ldcS C.1 C.2.1 (own := RX5) (by rw [← hY]; exact C.2.2.2.2.1) C.2.2.2.2.2.2.2.1.2.2.2.2.2.1 hd w
theorem W_of {p : Program} {e : Env} {R : Room} {s : State} {m : MethodId} {args : Array Value} {below : List Frame} {meth : Method} {c : Code} {H : Heap} {locs : List Loc} {Q : State → Prop} {cc : ByteArray} {ls : Array Slot} {rest : List Value} {A : Nat → Prop} (hexec : p.tables.exec = Jvm.exec) (hb : c.code = cc) {Cn n ds own : String} {v : Value} {index t : Nat} (hZ : va_OF Cn n ds v t A s H) (hown : s.vm.findClass own = some m.cls) (hlink : (Cond.fieldLink own index Cn n ds).before args s = true) (hdg : decode cc pc = .ok (.getfield index, 3))
    (kk : W p l e R s m args below meth c H locs cells slots Q (F0 m (pc + 3) ls (v :: rest))) : W p l e R s m args below meth c H locs cells slots Q (F0 m pc ls (.ref t :: rest)) := by
  obtain ⟨cf, k, i, f, cell, h1, h2, h3, h4, h5, -⟩ := hZ
  exact W.getf hexec hb hown hlink h1 h2 h3 h4 h5 rfl rfl hdg kk
def k_coder (k : Kt) (ls : Lv) (st : List Value) (h : Hp) : Prop := pop1r st fun a r => a = 5 ∧ k ls (.int 0 :: r) h
theorem sd_coder {i : Nat} (m1 : Cond.fieldLink Y.1.cls i "java/lang/String" "coder" "B" ∈ lw_tbl) (hd : decode Y.2.1 pc = .ok (.getfield i, 3)) (hk : Sd l E Y d mc ms Q cells slots (pc + 3) k) : Sd l E Y d mc ms Q cells slots pc (k_coder k) := by
  intro ls st h hK p e s m args below meth c C H locs lsm rp sv hL
  obtain ⟨a, r, rfl, rfl, hK2⟩ := pop1r_inv hK
  exact W_of C.1 C.2.1 rp.2.2.2.2.2.2.2.2.2.1 C.2.2.2.2.1 (C.w m1 rfl) hd (hk _ _ _ hK2 p e s m args below meth c C H locs lsm rp sv hL)
def k_value (k : Kt) (ls : Lv) (st : List Value) (h : Hp) : Prop := pop1r st fun a r => a = 5 ∧ k ls (.ref 6 :: r) h
theorem sd_value {i : Nat} (m1 : Cond.fieldLink Y.1.cls i "java/lang/String" "value" "[B" ∈ lw_tbl) (hd : decode Y.2.1 pc = .ok (.getfield i, 3)) (hk : Sd l E Y d mc ms Q cells slots (pc + 3) k) : Sd l E Y d mc ms Q cells slots pc (k_value k) := by
  intro ls st h hK p e s m args below meth c C H locs lsm rp sv hL
  obtain ⟨a, r, rfl, rfl, hK2⟩ := pop1r_inv hK
  exact W_of C.1 C.2.1 rp.2.2.2.2.2.2.2.2.2.2 C.2.2.2.2.1 (C.w m1 rfl) hd (hk _ _ _ hK2 p e s m args below meth c C H locs lsm rp sv hL)
theorem Rep.arrB {s : State} {h : Hp} {H : Heap} {a n : Nat} (rp : Rep E s h H) (ha : a < 9) (hs : hS h a = (6, n)) : ∃ cell : Cell, H[ad E a]? = some cell ∧ s.isArrayOf cell .byte ∧ cell.vm ≠ .unknown ∧ n ≤ cell.slots.size ∧ cell.slots.size.toInt32 = Int32.ofNat n ∧ ∀ j, j < n → cell.slots[j]? = some (.int (hI h a j)) := by
  have := rp.2.2.2.2.1 a ha
  unfold stC at this
  rw [hs] at this
  rw [ad_st ha]
  exact this
def k_baload (k : Kt) (ls : Lv) (st : List Value) (h : Hp) : Prop := popir st fun i a r => a < 9 ∧ (hS h a).1 = 6 ∧ vp_in i (hS h a).2 ∧ k ls (.int (hI h a i.toNatClampNeg) :: r) h
theorem sd_baload (hd : decode Y.2.1 pc = .ok (.baload, 1)) (hk : Sd l E Y d mc ms Q cells slots (pc + 1) k) : Sd l E Y d mc ms Q cells slots pc (k_baload k) := by
  intro ls st h hK p e s m args below meth c C H locs lsm rp sv hL
  obtain ⟨i, a, r, rfl, ha, hs, hi, hK⟩ := popir_inv hK
  obtain ⟨cell, g1, g2, g3, g4, g4b, g5⟩ := rp.arrB ha (n := (hS h a).2) (Prod.ext hs rfl)
  exact W.bald C.1 C.2.1 g1 g2 g3 (fun q => hi (q.imp id (fun q => Nat.le_trans g4 q))) (g5 _ (Nat.not_le.mp fun q => hi (Or.inr q))) rfl rfl hd (hk _ _ _ hK p e s m args below meth c C H locs lsm rp sv hL)
def k_blen (k : Kt) (ls : Lv) (st : List Value) (h : Hp) : Prop := pop1r st fun a r => a < 9 ∧ (hS h a).1 = 6 ∧ k ls (.int (Int32.ofNat (hS h a).2) :: r) h
theorem sd_blen (hd : decode Y.2.1 pc = .ok (.arraylength, 1)) (hk : Sd l E Y d mc ms Q cells slots (pc + 1) k) : Sd l E Y d mc ms Q cells slots pc (k_blen k) := by
  intro ls st h hK p e s m args below meth c C H locs lsm rp sv hL
  obtain ⟨a, r, rfl, ha, hs, hK⟩ := pop1r_inv hK
  obtain ⟨cell, g1, g2, g3, g4, g4b, g5⟩ := rp.arrB ha (n := (hS h a).2) (Prod.ext hs rfl)
  exact W.alen C.1 C.2.1 g1 g2 g4b rfl rfl hd (hk _ _ _ hK p e s m args below meth c C H locs lsm rp sv hL)
/-- a call on the text -/
def k_callT (l : Launch) (E : Ev) (Y' : My) (d' mc' ms' n : Nat) (k : Kt) (ls : Lv) (st : List Value) (h : Hp) : Prop := popNK n [] st fun as rest0 => pop1r rest0 fun b rest => b = 5 ∧ catS rest ≤ 8 ∧ GoM l E Y' d' mc' ms' (.ref b :: as) h (kont k ls rest)
theorem sd_callT {n i : Nat} (m1 : Cond.methodLink Y.1.cls i Y'.1 ∈ lw_tbl) (m2 : Cond.instanceMethod Y'.1 ∈ lw_tbl) (m3 : Cond.selects "java/lang/String" Y'.1 Y'.1 ∈ lw_tbl) (m4 : Cond.initialized "java/lang/String" ∈ lw_tbl) (m5 : Cond.code Y'.1 Y'.2.1 Y'.2.2.1 Y'.2.2.2 ∈ lw_tbl) (hy0 : Y'.1.cls = "java/lang/String") (hy : okM Y' n) (hm : Y'.2.2.1 ≤ 40) (hdd : d' + 1 ≤ d) (hcell : cells + mc' ≤ mc) (hslot : slots + ms' ≤ ms) (hd : decode Y.2.1 pc = .ok (.invokevirtual i, 3)) (hk : Sd l E Y d mc ms Q (cells + mc') (slots + ms') (pc + 3) k) : Sd l E Y d mc ms Q cells slots pc (k_callT l E Y' d' mc' ms' n k) := by
  intro ls st h hK p e s m args below meth c C H locs lsm rp sv hL
  obtain ⟨hle, hK⟩ := popN_inv hK
  obtain ⟨b, rest, hst, rfl, hcat, hK⟩ := pop1r_inv hK
  · rw [List.append_nil] at hK
    have ek := C.2.2.2.2.2.2.2.1
    obtain ⟨hstack, hlen⟩ := take_drop_map (E := E) hst
    have hgood : GoodIn gTbl (wsV Y.1.cls i "java/lang/String" Y'.1 (wsM Y')) := by
      intro w hw
      rcases List.mem_append.mp hw with h1 | h1
      · simp only [List.mem_cons, List.not_mem_nil, or_false] at h1
        rcases h1 with rfl | rfl | rfl | rfl
        · exact ⟨gTbl_in m1 rfl, good_of_word rfl⟩
        · exact ⟨gTbl_in m2 rfl, good_of_word rfl⟩
        · exact ⟨gTbl_in m3 rfl, good_of_word rfl⟩
        · exact ⟨gTbl_in m4 rfl, good_of_word rfl⟩
      · exact good_in m5 w h1
    obtain ⟨cell, o1, o2, o3, -⟩ := rp.2.2.2.2.2.2.2.2.1
    refine fin_call (va_runV (As := ((st.take n).reverse).map (mv E)) (rest := rest.map (mv E)) (b := ad E 5) ⟨C.1, C.2.1, C.2.2.2.1, C.2.2.2.2.1, C.2.2.2.2.2.1⟩ hK (cwV n C.2.2.2.2.2.1 hgood rfl rfl rfl ⟨hy0, hy⟩ (rm_ok hdd hm)) ⟨pc_blind, ⟨cell, o1, o2, o3⟩, fun U hU hW => ⟨rfl, by rw [hU]; exact rp.moved hW.alike, ek.moved hW⟩⟩ rfl hlen hL.1 hstack (lv_room (by rw [catS_mv]; exact hcat)) hd ⟨hcell, hslot⟩) sv ?_
    intro r h' H1 locs1 hQ rp1 sv1
    exact hk _ _ _ hQ p e s m args below meth c C H1 locs1 lsm rp1 sv1 hL
/-! a row's clone (Arrays.copyOf of the whole row), and the cast behind it -/
def k_clone (B : Nat) (k : Kt) (ls : Lv) (st : List Value) (h : Hp) : Prop := pop1r st fun a r => 9 ≤ a ∧ (hS h a).1 = 1 ∧ (hS h a).2 ≤ B ∧ catS r ≤ 8 ∧ k ls (.ref (hN h) :: r) (wI (nw h 1 (hS h a).2) (hN h) (hI h a))
theorem fnI {s : State} (ek : EK E s) : s.vm.findClass "[I" = some (E.2.2.2 1) := (ek.1.2 0 _ rfl).2
theorem Rep.wnew {s : State} {h : Hp} {H H' : Heap} {n : Nat} {f : Nat → Int32} (rp : Rep E s h H) (hst : ∀ p, p < 9 → E.2.1 p < E.1) (z : H'.size = H.size + 1) (oq : ∀ q, q < H.size → H'[q]? = H[q]?) (hc : H'[H.size]? = some (arrV (E.2.2.2 1) n (fun j => .int (f j)))) : Rep E s (wI (nw h 1 n) (hN h) f) H' := by
  obtain ⟨r1, r2, r3, r4, r5, r6⟩ := rp
  refine ⟨by rw [hN_wI, hN_nw]; omega, by rw [hN_wI, hN_nw, z]; omega, fun q h1 h2 => ?_, fun q h1 => ?_, fun q h1 => ?_, r6.kept (by rw [hR_wI, hR_nw, if_neg (by omega)]) fun a ha _ => oq a ha⟩
  · rw [hN_wI, hN_nw] at h2
    by_cases e : q = hN h
    · subst e
      rw [cell_1 (n := n) (by rw [hS_wI, hS_nw, if_pos rfl]), hI_wI, if_pos rfl, ad_own r1, ← r2]
      exact hc
    · have hcell : cellOf E (wI (nw h 1 n) (hN h) f) q = cellOf E h q := by
        simp only [cellOf, fvs, hS_wI, hI_wI, hJ_wI, hR_wI, hS_nw, hI_nw, hJ_nw, hR_nw, if_neg e]
      rw [hcell]
      exact (r3 q h1 (by omega)).kept (oq _ (by rw [ad_own h1]; omega))
  · rw [hN_wI, hN_nw] at h1
    rw [hS_wI, hS_nw, if_neg (by omega)]
    exact r4 q (by omega)
  · have hh : H'[E.2.1 q]? = H[E.2.1 q]? := oq _ (by have := hst q h1; omega)
    have := r5 q h1
    unfold stC at this ⊢
    simp only [hS_wI, hI_wI, hJ_wI, hS_nw, hI_nw, hJ_nw, if_neg (show q ≠ hN h by omega), hh]
    exact this
theorem sd_clone {i B : Nat} (m1 : Cond.methodLink Y.1.cls i clName1 ∈ lw_tbl) (m2 : Cond.sameMethod "[I" "java/lang/Object" "clone" "()Ljava/lang/Object;" ∈ lw_tbl) (m3 : Cond.native clName ∈ lw_tbl) (m4 : Cond.instanceMethod clName ∈ lw_tbl) (m5 : Cond.selects "[I" clName1 clName ∈ lw_tbl) (hdd : 1 ≤ d) (hcell : cells + 1 ≤ mc) (hslot : slots + B ≤ ms) (hd : decode Y.2.1 pc = .ok (.invokevirtual i, 3)) (hk : Sd l E Y d mc ms Q (cells + 1) (slots + B) (pc + 3) k) : Sd l E Y d mc ms Q cells slots pc (k_clone B k) := by
  intro ls st h hK p e s m args below meth c C H locs lsm rp sv hL
  obtain ⟨a, r, rfl, ha, hs, hB, hcat, hK⟩ := pop1r_inv hK
  have ek := C.2.2.2.2.2.2.2.1
  have hA := rp.at (p := a) (by rw [hs]; simp) ha
  rw [cell_1 (n := (hS h a).2) (Prod.ext hs rfl)] at hA
  have hA : H[ad E a]? = some (arrV (E.2.2.2 1) (hS h a).2 (fun j => .int (hI h a j))) := hA
  generalize hx : arrV (E.2.2.2 1) (hS h a).2 (fun j => .int (hI h a j)) = x at hA
  have hsz : x.slots.size = (hS h a).2 := by rw [← hx, arrV_size]
  have hvm0 : x.vm = .none := by rw [← hx]; rfl
  have hcl0 : x.cls = E.2.2.2 1 := by rw [← hx]; rfl
  have hcellE : ({ cls := x.cls, slots := x.slots } : Cell) = x := by rw [← hx]; rfl
  obtain ⟨c0, t0', f1, f2, f3⟩ := Cond.castable_spec (va_Nw.use (A := args) rfl ek.2.2.2.2.2.2)
  cases (fnI ek).symm.trans f1
  intro T hT X
  have hcellT : T.heap[ad E a]? = some x := by rw [hT]; exact hA
  obtain ⟨-, kA, hkA, comp, hkind⟩ := State.isArrayOf_alike X.warmed.alike ((ek.1.2 0 _ rfl).1 0 (fun _ => .null))
  obtain ⟨-, kS, hkS, compS, hkindS⟩ := (ek.1.2 0 _ rfl).1 0 (fun _ => .null)
  obtain ⟨vm', X', st⟩ := X.cloneArray C.1 C.2.2.2.2.1 (C.w m1 rfl) (C.w m2 rfl) (C.w m3 rfl) (C.w m4 rfl) (C.w m5 rfl) (a := ad E a) (cell := x) hcellT (fun k h => by rw [hvm0] at h; cases h) (by rw [hvm0]; exact fun h => by cases h) (by rw [hcl0]; exact fnI ek) f2 (by rw [hcl0]; exact f3)
    (fun i v hv => by
      rw [hcl0]
      have hk' : T.vm.classes[E.2.2.2 1]? = some kA := hkA
      have hv2 : ∃ z, v = .int z := by
        rw [← hx] at hv
        have hlt := (Array.getElem?_eq_some_iff.mp hv).1
        rw [arrV_size] at hlt
        rw [arrV_read _ _ hlt] at hv
        exact ⟨_, (Option.some.inj hv).symm⟩
      obtain ⟨z, rfl⟩ := hv2
      simp [State.fitsSlot, State.slotType?, hk', hkind, fits])
    (g := F0 m pc lsm (.ref (ad E a) :: r.map (mv E))) rfl (hL.1.trans C.2.2.2.1.symm) rfl (by rw [C.2.1]; exact hd) hdd (by show 2 * 0 + ((r.map (mv E)).map fun v => v.category).sum + 14 ≤ 64 * d; rw [catS_mv]; omega) hcell (by rw [hsz]; show slots + _ ≤ ms; omega) (hloader := by rw [hcl0]; exact Vm.clonesLoader_of_array hkS hkindS)
  rw [hcellE, hsz] at X'
  generalize hH1 : H.push x = H1
  have z1 : H1.size = H.size + 1 := by rw [← hH1, Array.size_push]
  have e1 : H1[H.size]? = some x := by rw [← hH1, Array.getElem?_push_size]
  have o1 : ∀ q : Nat, q < H.size → H1[q]? = H[q]? := fun q hq => by rw [← hH1, Array.getElem?_push, if_neg (Nat.ne_of_lt hq)]
  have w := hk _ _ _ hK p e s m args below meth c C H1 locs lsm (rp.wnew ek.2.1 z1 o1 (by rw [e1, ← hx])) (sv.new z1 o1) hL
  obtain ⟨t, b1, b2⟩ := w ((T.setVm vm').pushCell x) (by rw [← hH1, ← hT]; rfl) (stand_widen X' (Nat.le_refl _) (Nat.add_le_add_left hB slots))
  refine ⟨t, st t ?_, b2⟩
  rw [hcellE, hT]
  rw [List.map_cons] at b1
  have : mv E (.ref (hN h)) = .ref H.size := by show Value.ref (ad E (hN h)) = _; rw [ad_new rp]
  rw [this] at b1
  exact b1
def k_castI (k : Kt) (ls : Lv) (st : List Value) (h : Hp) : Prop := pop1r st fun a r => 9 ≤ a ∧ (hS h a).1 = 1 ∧ k ls (.ref a :: r) h
theorem sd_castI {i : Nat} (m1 : Cond.classLink Y.1.cls i "[I" ∈ lw_tbl) (hd : decode Y.2.1 pc = .ok (.checkcast i, 3)) (hk : Sd l E Y d mc ms Q cells slots (pc + 3) k) : Sd l E Y d mc ms Q cells slots pc (k_castI k) := by
  intro ls st h hK p e s m args below meth c C H locs lsm rp sv hL
  obtain ⟨a, r, rfl, ha, hs, hK⟩ := pop1r_inv hK
  have hP := rp.P (a := a) (by rw [hs]; simp) ha
  rw [cell_1 (n := (hS h a).2) (Prod.ext hs rfl)] at hP
  exact va_castA C.1 C.2.1 C.2.2.2.2.1 (C.w m1 rfl) hP 0 rfl (fnI C.2.2.2.2.2.2.2.1) hd (hk _ _ _ hK p e s m args below meth c C H locs lsm rp sv hL)
/-- a lookup switch -/
theorem lk_get {cs : List (Int32 × Kt)} {dk : Kt} {ps : List (Int × Int)} {dflt : Int} {dt : Nat} {x : Int32} {ls : Lv} {r : List Value} {h : Hp} (hdt : (pc : Int) + dflt = (dt : Int)) (hdk : Sd l E Y d mc ms Q cells slots dt dk)
    (hlen : cs.length = ps.length) (hcs : ∀ (i : Nat) (q : Int32 × Kt) (u : Int × Int), cs[i]? = some q → ps[i]? = some u → q.1.toInt = u.1 ∧ ∃ tgt : Nat, (pc : Int) + u.2 = (tgt : Int) ∧ Sd l E Y d mc ms Q cells slots tgt q.2) (hK : swK cs dk x ls r h) :
    ∃ (tgt : Nat) (kk : Kt), (pc : Int) + Op.lookupswitch.offset ps dflt x.toInt = (tgt : Int) ∧ Sd l E Y d mc ms Q cells slots tgt kk ∧ kk ls r h := by
  induction cs generalizing ps with
  | nil =>
    cases ps with
    | nil => exact ⟨dt, dk, by simpa [Op.lookupswitch.offset] using hdt, hdk, hK⟩
    | cons u t => simp at hlen
  | cons q t ih =>
    cases ps with
    | nil => simp at hlen
    | cons u v =>
      obtain ⟨c, kk⟩ := q
      obtain ⟨a, o⟩ := u
      obtain ⟨e1, tgt, e2, e3⟩ := hcs 0 (c, kk) (a, o) rfl rfl
      dsimp only at e1 e2 e3
      obtain ⟨h1, h2⟩ := hK
      by_cases e : x = c
      · refine ⟨tgt, kk, ?_, e3, h1 e⟩
        rw [Op.lookupswitch.offset_cons, if_pos (by rw [← e1, e])]
        exact e2
      · obtain ⟨tg, k2, a1, a2, a3⟩ := ih (ps := v) (by simpa using hlen) (fun i q u hq hu => hcs (i + 1) q u (by simpa using hq) (by simpa using hu)) (h2 e)
        exact ⟨tg, k2, by rw [lv_osw e e1]; exact a1, a2, a3⟩
theorem sd_lookup {dflt : Int} {ps : Array (Int × Int)} {len dt : Nat} {cs : List (Int32 × Kt)} {dk : Kt} (hd : decode Y.2.1 pc = .ok (.lookupswitch dflt ps, len)) (hp : (ps.toList.zip (ps.toList.drop 1)).all (fun (a, next) => a.1 < next.1) = true) (hdt : (pc : Int) + dflt = (dt : Int)) (hdk : Sd l E Y d mc ms Q cells slots dt dk)
    (hlen : cs.length = ps.toList.length) (hcs : ∀ (i : Nat) (q : Int32 × Kt) (u : Int × Int), cs[i]? = some q → ps.toList[i]? = some u → q.1.toInt = u.1 ∧ ∃ tgt : Nat, (pc : Int) + u.2 = (tgt : Int) ∧ Sd l E Y d mc ms Q cells slots tgt q.2) : Sd l E Y d mc ms Q cells slots pc (k_sw cs dk) := by
  intro ls st h hK p e s m args below meth c C H locs lsm rp sv hL
  obtain ⟨x, r, rfl, hK⟩ := pop1i_inv hK
  obtain ⟨tgt, kk, a1, a2, a3⟩ := lk_get hdt hdk hlen hcs hK
  exact lv_lookup C.1 C.2.1 hd hp rfl a1 (a2 _ _ _ a3 p e s m args below meth c C H locs lsm rp sv hL)
end LIB
