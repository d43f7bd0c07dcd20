section MEM
variable {l : Launch} {E : Ev} {Y : My} {d mc ms cells slots pc : Nat} {Q : Option Value → Hp → Prop} {k kt kf : Kt}
theorem Cx.w {p : Program} {s : State} {m : MethodId} {args : Array Value} {meth : Method} {c : Code} (C : Cx Y E p s m args meth c) {w : Cond} (h : w ∈ lw_tbl) (hg : goodWord w = true) : w.before args s = true := C.2.2.2.2.2.1 _ (gTbl_in h hg)
theorem lay_good (Cn : String) (T : u_T) (i : Nat) : goodWord (u_lay Cn T i) = true := by
  unfold u_lay
  split <;> rfl
theorem ux_in {Cn : String} {T : u_T} {N : Nat} (h : ∀ w ∈ u_ws Cn T N, w ∈ lw_tbl) : ∀ w ∈ u_ws Cn T N, w ∈ gTbl := by
  intro w hw
  refine gTbl_in (h w hw) ?_
  obtain ⟨i, -, rfl⟩ := List.mem_map.mp hw
  exact lay_good _ _ _
/-- a class of vwCl with its table -/
def Cls (ci : Nat) (Cn : String) (T : u_T) (N : Nat) : Prop := vwCl[ci]? = some (Cn, T, N) ∧ (∀ w ∈ u_ws Cn T N, w ∈ lw_tbl) ∧ (∀ i, i < N → parseFieldDescriptor (T i).2.2.1 = some (tyF ci i)) ∧ (∀ a, a < N → ∀ b, b < N → a ≠ b → (T a).2.1 ≠ (T b).2.1)
theorem clsX0 : Cls 0 RX0 TX0 7 := ⟨rfl, ixX0, tyX0_ok, nmX0⟩
theorem clsX1 : Cls 1 RX1 TX1 7 := ⟨rfl, ixX1, tyX1_ok, nmX1⟩
theorem clsX2 : Cls 2 RX2 TX2 3 := ⟨rfl, ixX2, tyX2_ok, nmX2⟩
theorem clsX3 : Cls 3 RX3 TX3 10 := ⟨rfl, ixX3, tyX3_ok, nmX3⟩
theorem clsX4 : Cls 4 RX4 TX4 5 := ⟨rfl, ixX4, tyX4_ok, nmX4⟩
theorem clsX5 : Cls 5 RX5 TX5 12 := ⟨rfl, ixX5, tyX5_ok, nmX5⟩
theorem clsX6 : Cls 6 RX6 TX6 7 := ⟨rfl, ixX6, tyX6_ok, nmX6⟩
theorem clsX7 : Cls 7 RX7 TX7 15 := ⟨rfl, ixX7, tyX7_ok, nmX7⟩
theorem clsX8 : Cls 8 RX8 TX8 19 := ⟨rfl, ixX8, tyX8_ok, nmX8⟩
theorem clsX9 : Cls 9 RX9 TX9 55 := ⟨rfl, ixX9, tyX9_ok, nmX9⟩
/-- an own cell is one of the world of one cell -/
theorem Rep.P {s : State} {h : Hp} {H : Heap} {a : Nat} (hR : Rep E s h H) (hk : (hS h a).1 ≠ 0) (ha : 9 ≤ a) : va_P E.2.2.1 vwCl [(ad E a, cellOf E h a)] H := fun i q hq => by
  cases i with
  | zero => cases hq; exact hR.at hk ha
  | succ i => simp at hq

def k_getI (ci N f : Nat) (k : Kt) (ls : Lv) (st : List Value) (h : Hp) : Prop := pop1r st fun a r => 9 ≤ a ∧ hS h a = (10 + ci, N) ∧ k ls (.int (hI h a f) :: r) h
theorem sd_getI {ci N f i : Nat} {Cn : String} {T : u_T} (hc : Cls ci Cn T N) (hf : f < N) (hty : ∀ (i : Int32) (j : Int64) (r : Option Nat), fv E (tyF ci f) i j r = .int i) (hl : Cond.fieldLink Y.1.cls i (T f).1 (T f).2.1 (T f).2.2.1 ∈ lw_tbl) (hd : decode Y.2.1 pc = .ok (.getfield i, 3)) (hk : Sd l E Y d mc ms Q cells slots (pc + 3) k) : Sd l E Y d mc ms Q cells slots pc (k_getI ci N f k) := by
  intro ls st h hK p e s m args below meth c C H locs lsm rp sv hL
  obtain ⟨a, r, rfl, ha, hs, hK⟩ := pop1r_inv hK
  have hP := rp.P (a := a) (by rw [hs]; simp) ha
  rw [cell_obj hs] at hP
  exact va_get (v := .int (hI h a f)) C.1 C.2.1 C.2.2.2.2.2.1 (ux_in hc.2.1) C.2.2.2.2.1 C.2.2.2.2.2.2.2.1.1 hP 0 rfl hc.1 f hf (C.w hl rfl) (fun _ q => q) (by rw [fvs_get hf, hty _ _ _]) hd (hk _ _ _ hK p e s m args below meth c C H locs lsm rp sv hL)
def k_getJ (ci N f : Nat) (k : Kt) (ls : Lv) (st : List Value) (h : Hp) : Prop := pop1r st fun a r => 9 ≤ a ∧ hS h a = (10 + ci, N) ∧ k ls (.long (hJ h a f) :: r) h
theorem sd_getJ {ci N f i : Nat} {Cn : String} {T : u_T} (hc : Cls ci Cn T N) (hf : f < N) (hty : ∀ (i : Int32) (j : Int64) (r : Option Nat), fv E (tyF ci f) i j r = .long j) (hl : Cond.fieldLink Y.1.cls i (T f).1 (T f).2.1 (T f).2.2.1 ∈ lw_tbl) (hd : decode Y.2.1 pc = .ok (.getfield i, 3)) (hk : Sd l E Y d mc ms Q cells slots (pc + 3) k) : Sd l E Y d mc ms Q cells slots pc (k_getJ ci N f k) := by
  intro ls st h hK p e s m args below meth c C H locs lsm rp sv hL
  obtain ⟨a, r, rfl, ha, hs, hK⟩ := pop1r_inv hK
  have hP := rp.P (a := a) (by rw [hs]; simp) ha
  rw [cell_obj hs] at hP
  exact va_get (v := .long (hJ h a f)) C.1 C.2.1 C.2.2.2.2.2.1 (ux_in hc.2.1) C.2.2.2.2.1 C.2.2.2.2.2.2.2.1.1 hP 0 rfl hc.1 f hf (C.w hl rfl) (fun _ q => q) (by rw [fvs_get hf, hty _ _ _]) hd (hk _ _ _ hK p e s m args below meth c C H locs lsm rp sv hL)
def k_getR (ci N f : Nat) (k : Kt) (ls : Lv) (st : List Value) (h : Hp) : Prop := pop1r st fun a r => 9 ≤ a ∧ hS h a = (10 + ci, N) ∧ pR (rfT a f) (hR h a f) (fun v => k ls (v :: r) h)
theorem sd_getR {ci N f i : Nat} {Cn : String} {T : u_T} (hc : Cls ci Cn T N) (hf : f < N) (hty : ∀ (i : Int32) (j : Int64) (r : Option Nat), fv E (tyF ci f) i j r = va_rf (r.map (ad E))) (hl : Cond.fieldLink Y.1.cls i (T f).1 (T f).2.1 (T f).2.2.1 ∈ lw_tbl) (hd : decode Y.2.1 pc = .ok (.getfield i, 3)) (hk : Sd l E Y d mc ms Q cells slots (pc + 3) k) : Sd l E Y d mc ms Q cells slots pc (k_getR ci N f k) := by
  intro ls st h hK p e s m args below meth c C H locs lsm rp sv hL
  obtain ⟨a, r, rfl, ha, hs, hK⟩ := pop1r_inv hK
  have hP := rp.P (a := a) (by rw [hs]; simp) ha
  rw [cell_obj hs] at hP
  exact va_get (v := va_rf ((hR h a f).map (ad E))) C.1 C.2.1 C.2.2.2.2.2.1 (ux_in hc.2.1) C.2.2.2.2.1 C.2.2.2.2.2.2.2.1.1 hP 0 rfl hc.1 f hf (C.w hl rfl) (fun _ q => q) (by rw [fvs_get hf, hty _ _ _]) hd (by have w := hk _ _ _ (pR_use hK) p e s m args below meth c C H locs lsm rp sv hL; rw [List.map_cons, mv_rfv] at w; exact w)
/-- va_put, with what it leaves alone -/
theorem ow_put {p : Program} {e : Env} {R : Room} {s : State} {m : MethodId} {args : Array Value} {below : List Frame} {meth : Method} {c : Code} {H H0 : Heap} {locs : List Loc} {Q : State → Prop} {cc : ByteArray} {ls : Array Slot} {rest : List Value} {D : va_G} {cl : List vw_C} {A : Nat → Prop} {a : Nat} {tys : List (ClassId × FieldType)} (hexec : p.tables.exec = Jvm.exec) (hb : c.code = cc) {own C : String} {T : u_T} {N ci index : Nat} {Ts : List Cond} (hts : ∀ w ∈ Ts, w.before args s = true) (hin : ∀ w ∈ u_ws C T N, w ∈ Ts) (ty0 : Nat → FieldType) (hty : ∀ k, k < N → parseFieldDescriptor (T k).2.2.1 = some (ty0 k)) (hnm : ∀ a, a < N → ∀ b, b < N → a ≠ b → (T a).2.1 ≠ (T b).2.1) (hown : s.vm.findClass own = some m.cls) (hK : va_K D cl tys s) {fs : List Value} (hP : va_at D cl (a, .inr (ci, fs)) H) (hA : A a) (hS0 : va_S A H0 H locs) (hc : cl[ci]? = some (C, T, N)) (k : Nat) (hk : k < N) (hlink : (Cond.fieldLink own index (T k).1 (T k).2.1 (T k).2.2.1).before args s = true) (hfin : (T k).2.2.2 = false ∨ ((T k).2.2.2 = true ∧ meth.name = "<init>" ∧ (T k).1 = own)) {v : Value} (hn : narrow (ty0 k) v = v) (hfit : fits (ty0 k) v = true) (hl : k < fs.length)
    (hdg : decode cc pc = .ok (.putfield index, 3)) (kk : ∀ (H1 : Heap) (locs1 : List Loc), va_at D cl (a, .inr (ci, fs.set k v)) H1 → H1.size = H.size → (∀ q, q ≠ a → H1[q]? = H[q]?) → va_S A H0 H1 locs1 → W p l e R s m args below meth c H1 locs1 cells slots Q (F0 m (pc + 3) ls rest)) : W p l e R s m args below meth c H locs cells slots Q (F0 m pc ls (v :: .ref a :: rest)) := by
  have hap := va_apart (own := own) hts hin ty0 hty hnm hK hc
  obtain ⟨r, h1, cell, q1, q2, q3, q4⟩ := hP
  have hr : r = (C, T, N) := Option.some.inj (h1.symm.trans hc)
  subst hr
  obtain ⟨hS, hfc, kC, hkC, hkind⟩ := hK.1 ci _ hc
  obtain ⟨cf, kf, fi, f, hi, hsl⟩ := hS k hk
  have hlay := hts _ (hin _ (u_in_lay hk))
  have hst := (u_facts hfc hkC (u_lays hts hin hk) hi).1
  have fin : ∀ H' : Heap, H'[a]? = some (cell.setSlot f.slot v) → H'.size = H.size → (∀ q, q ≠ a → H'[q]? = H[q]?) → W p l e R s m args below meth c H' (locs ++ [⟨a, f.slot⟩]) cells slots Q (F0 m (pc + 3) ls rest) := by
    intro H' e1 e2 e3
    rw [hsl] at e1 ⊢
    exact kk H' _ ⟨_, hc, t_OB.to (V := updV (vp_V fs) k v) ⟨_, e1, q2, q3, t_set q4 hap hk v⟩ (fun j _ => vp_updV_set hl v j)⟩ e2 e3 (hS0.put e2 e3 hA)
  rcases hfin with hfin | ⟨hfin, hin2, hdecl⟩
  · unfold u_lay at hlay
    rw [if_neg (by rw [hfin]; decide)] at hlay
    have h6 := u_store hfc hkC hkind hlay hi (hty k hk) hn hfit
    exact W.putK hexec hb (f := f) ⟨hown, hlink, ⟨_, _, _, hi⟩, hst⟩ (by rw [q2]; exact h6) q1 q3 (by rw [hsl]; exact k2_hasslot (q4 k hk)) rfl rfl hdg fin
  · unfold u_lay at hlay
    rw [if_pos hfin] at hlay
    have hcf : m.cls = cf := by
      obtain ⟨_, _, c', _, _, _, -, -, hf', -, -, -, hown2, -⟩ := Cond.laysFinal_spec hlay
      have e1 : c' = cf := by have := hi.symm.trans hf'; simp at this; exact this.1.symm
      rw [hdecl] at hown2
      rw [← e1]; exact Option.some.inj (hown.symm.trans hown2)
    have h6 := u_fits hfc hkC hkind (Or.inr hlay) hi (hty k hk) hn hfit
    exact W.putFinK hexec hb hown hlink hi hst hcf hin2 (by rw [q2]; exact h6) q1 q3 (by rw [hsl]; exact k2_hasslot (q4 k hk)) rfl rfl hdg fin
theorem fvs_len (E : Ev) (h : Hp) (p c n : Nat) : (fvs E h p c n).length = n := by simp [fvs]
theorem fvs_set {h h' : Hp} {p c n f : Nat} {v : Value} (hv : fv E (tyF c f) (hI h' p f) (hJ h' p f) (hR h' p f) = v) (ho : ∀ j, j ≠ f → fv E (tyF c j) (hI h' p j) (hJ h' p j) (hR h' p j) = fv E (tyF c j) (hI h p j) (hJ h p j) (hR h p j)) : fvs E h' p c n = (fvs E h p c n).set f v := by
  apply List.ext_getElem?
  intro j
  rw [List.getElem?_set]
  by_cases hj : j < n
  · rw [fvs_get hj]
    by_cases e : f = j
    · subst e
      rw [if_pos rfl, if_pos (by rw [fvs_len]; exact hj), hv]
    · rw [if_neg e, fvs_get hj, ho j (fun q => e q.symm)]
  · have h1 : (fvs E h' p c n)[j]? = none := by simp [fvs]; omega
    have h2 : (fvs E h p c n)[j]? = none := by simp [fvs]; omega
    rw [h1, h2]
    split
    · rw [if_neg (by rw [fvs_len]; rename_i e; omega)]
    · rfl
def k_putI (ci N f : Nat) (k : Kt) (ls : Lv) (st : List Value) (h : Hp) : Prop := popir st fun x a r => 9 ≤ a ∧ hS h a = (10 + ci, N) ∧ k ls r (sI h a f x)
theorem sd_putI {ci N f i : Nat} {Cn : String} {T : u_T} (hc : Cls ci Cn T N) (hf : f < N) (hty : ∀ (i : Int32) (j : Int64) (r : Option Nat), fv E (tyF ci f) i j r = .int i) (hti : tyF ci f = .int) (hfin : (T f).2.2.2 = false ∨ ((T f).2.2.2 = true ∧ Y.1.name = "<init>" ∧ (T f).1 = Y.1.cls)) (hl : Cond.fieldLink Y.1.cls i (T f).1 (T f).2.1 (T f).2.2.1 ∈ lw_tbl) (hd : decode Y.2.1 pc = .ok (.putfield i, 3)) (hk : Sd l E Y d mc ms Q cells slots (pc + 3) k) : Sd l E Y d mc ms Q cells slots pc (k_putI ci N f k) := by
  intro ls st h hK p e s m args below meth c C H locs lsm rp sv hL
  obtain ⟨x, a, r, rfl, ha, hs, hK⟩ := popir_inv hK
  have hP := rp.at (p := a) (by rw [hs]; simp) ha
  rw [cell_obj hs] at hP
  refine ow_put (A := frE E) C.1 C.2.1 C.2.2.2.2.2.1 (ux_in hc.2.1) (tyF ci) hc.2.2.1 hc.2.2.2 C.2.2.2.2.1 C.2.2.2.2.2.2.2.1.1 hP (by show E.1 ≤ _; rw [ad_own ha]; omega) sv hc.1 f hf (C.w hl rfl) (hfin.imp id (fun q => ⟨q.1, C.2.2.2.2.2.2.2.2.trans q.2.1, q.2.2⟩)) (v := .int x) (by rw [hti]; rfl) (by rw [hti]; rfl) (by rw [fvs_len]; exact hf) hd fun H1 locs1 e1 e2 e3 e4 => ?_
  refine hk _ _ _ hK p e s m args below meth c C H1 locs1 lsm (rp.put C.2.2.2.2.2.2.2.1.2.1 ha (fun _ => rfl) rfl (fun q hq => ?_) e2 e3 ?_) e4 hL
  · simp [sI, sJ, sR, wI, wJ, wR, hI, hJ, hR, va_up, hq]
  · rw [cell_obj (n := N) (by exact hs)]
    rw [fvs_set (h := h) (f := f) (v := .int x) (by rw [hty]; simp [sI, sJ, wI, wJ, hI, hJ, va_up]) (fun j hj => by simp [sI, sJ, wI, wJ, hI, hJ, hR, va_up, hj])]
    exact e1
def k_putZ (ci N f : Nat) (k : Kt) (ls : Lv) (st : List Value) (h : Hp) : Prop := popir st fun x a r => 9 ≤ a ∧ hS h a = (10 + ci, N) ∧ zb x ∧ k ls r (sI h a f x)
theorem sd_putZ {ci N f i : Nat} {Cn : String} {T : u_T} (hc : Cls ci Cn T N) (hf : f < N) (hty : ∀ (i : Int32) (j : Int64) (r : Option Nat), fv E (tyF ci f) i j r = .int i) (hti : tyF ci f = .boolean) (hfin : (T f).2.2.2 = false ∨ ((T f).2.2.2 = true ∧ Y.1.name = "<init>" ∧ (T f).1 = Y.1.cls)) (hl : Cond.fieldLink Y.1.cls i (T f).1 (T f).2.1 (T f).2.2.1 ∈ lw_tbl) (hd : decode Y.2.1 pc = .ok (.putfield i, 3)) (hk : Sd l E Y d mc ms Q cells slots (pc + 3) k) : Sd l E Y d mc ms Q cells slots pc (k_putZ ci N f k) := by
  intro ls st h hK p e s m args below meth c C H locs lsm rp sv hL
  obtain ⟨x, a, r, rfl, ha, hs, hn, hK⟩ := popir_inv hK
  have hP := rp.at (p := a) (by rw [hs]; simp) ha
  rw [cell_obj hs] at hP
  refine ow_put (A := frE E) C.1 C.2.1 C.2.2.2.2.2.1 (ux_in hc.2.1) (tyF ci) hc.2.2.1 hc.2.2.2 C.2.2.2.2.1 C.2.2.2.2.2.2.2.1.1 hP (by show E.1 ≤ _; rw [ad_own ha]; omega) sv hc.1 f hf (C.w hl rfl) (hfin.imp id (fun q => ⟨q.1, C.2.2.2.2.2.2.2.2.trans q.2.1, q.2.2⟩)) (v := .int x) (by rw [hti]; exact zb_n hn) (by rw [hti]; exact zb_f hn) (by rw [fvs_len]; exact hf) hd fun H1 locs1 e1 e2 e3 e4 => ?_
  refine hk _ _ _ hK p e s m args below meth c C H1 locs1 lsm (rp.put C.2.2.2.2.2.2.2.1.2.1 ha (fun _ => rfl) rfl (fun q hq => ?_) e2 e3 ?_) e4 hL
  · simp [sI, sJ, sR, wI, wJ, wR, hI, hJ, hR, va_up, hq]
  · rw [cell_obj (n := N) (by exact hs)]
    rw [fvs_set (h := h) (f := f) (v := .int x) (by rw [hty]; simp [sI, sJ, wI, wJ, hI, hJ, va_up]) (fun j hj => by simp [sI, sJ, wI, wJ, hI, hJ, hR, va_up, hj])]
    exact e1
def k_putJ (ci N f : Nat) (k : Kt) (ls : Lv) (st : List Value) (h : Hp) : Prop := poplr st fun x a r => 9 ≤ a ∧ hS h a = (10 + ci, N) ∧ k ls r (sJ h a f x)
theorem sd_putJ {ci N f i : Nat} {Cn : String} {T : u_T} (hc : Cls ci Cn T N) (hf : f < N) (hty : ∀ (i : Int32) (j : Int64) (r : Option Nat), fv E (tyF ci f) i j r = .long j) (hti : tyF ci f = .long) (hfin : (T f).2.2.2 = false ∨ ((T f).2.2.2 = true ∧ Y.1.name = "<init>" ∧ (T f).1 = Y.1.cls)) (hl : Cond.fieldLink Y.1.cls i (T f).1 (T f).2.1 (T f).2.2.1 ∈ lw_tbl) (hd : decode Y.2.1 pc = .ok (.putfield i, 3)) (hk : Sd l E Y d mc ms Q cells slots (pc + 3) k) : Sd l E Y d mc ms Q cells slots pc (k_putJ ci N f k) := by
  intro ls st h hK p e s m args below meth c C H locs lsm rp sv hL
  obtain ⟨x, a, r, rfl, ha, hs, hK⟩ := poplr_inv hK
  have hP := rp.at (p := a) (by rw [hs]; simp) ha
  rw [cell_obj hs] at hP
  refine ow_put (A := frE E) C.1 C.2.1 C.2.2.2.2.2.1 (ux_in hc.2.1) (tyF ci) hc.2.2.1 hc.2.2.2 C.2.2.2.2.1 C.2.2.2.2.2.2.2.1.1 hP (by show E.1 ≤ _; rw [ad_own ha]; omega) sv hc.1 f hf (C.w hl rfl) (hfin.imp id (fun q => ⟨q.1, C.2.2.2.2.2.2.2.2.trans q.2.1, q.2.2⟩)) (v := .long x) (by rw [hti]; rfl) (by rw [hti]; rfl) (by rw [fvs_len]; exact hf) hd fun H1 locs1 e1 e2 e3 e4 => ?_
  refine hk _ _ _ hK p e s m args below meth c C H1 locs1 lsm (rp.put C.2.2.2.2.2.2.2.1.2.1 ha (fun _ => rfl) rfl (fun q hq => ?_) e2 e3 ?_) e4 hL
  · simp [sI, sJ, sR, wI, wJ, wR, hI, hJ, hR, va_up, hq]
  · rw [cell_obj (n := N) (by exact hs)]
    rw [fvs_set (h := h) (f := f) (v := .long x) (by rw [hty]; simp [sI, sJ, wI, wJ, hI, hJ, va_up]) (fun j hj => by simp [sI, sJ, wI, wJ, hI, hJ, hR, va_up, hj])]
    exact e1
def k_putR (ci N f : Nat) (k : Kt) (ls : Lv) (st : List Value) (h : Hp) : Prop := match st with
  | .ref x :: .ref a :: r => 9 ≤ a ∧ hS h a = (10 + ci, N) ∧ k ls r (sR h a f (some x))
  | .null :: .ref a :: r => 9 ≤ a ∧ hS h a = (10 + ci, N) ∧ k ls r (sR h a f none)
  | _ => False
def isRT (ty : FieldType) : Bool := match ty with
  | .object _ => true
  | .array _ => true
  | _ => false
theorem rt_ok {ty : FieldType} (h : isRT ty = true) (a : Nat) : narrow ty (.ref a) = .ref a ∧ fits ty (.ref a) = true ∧ narrow ty .null = .null ∧ fits ty .null = true := by
  cases ty <;> simp [isRT] at h <;> exact ⟨rfl, rfl, rfl, rfl⟩
theorem sd_putR {ci N f i : Nat} {Cn : String} {T : u_T} (hc : Cls ci Cn T N) (hf : f < N) (hty : ∀ (i : Int32) (j : Int64) (r : Option Nat), fv E (tyF ci f) i j r = va_rf (r.map (ad E))) (hrt : isRT (tyF ci f) = true) (hfin : (T f).2.2.2 = false ∨ ((T f).2.2.2 = true ∧ Y.1.name = "<init>" ∧ (T f).1 = Y.1.cls)) (hl : Cond.fieldLink Y.1.cls i (T f).1 (T f).2.1 (T f).2.2.1 ∈ lw_tbl) (hd : decode Y.2.1 pc = .ok (.putfield i, 3)) (hk : Sd l E Y d mc ms Q cells slots (pc + 3) k) : Sd l E Y d mc ms Q cells slots pc (k_putR ci N f k) := by
  intro ls st h hK p e s m args below meth c C H locs lsm rp sv hL
  unfold k_putR at hK
  split at hK
  · rename_i x a r
    obtain ⟨ha, hs, hK⟩ := hK
    have hP := rp.at (p := a) (by rw [hs]; simp) ha
    rw [cell_obj hs] at hP
    refine ow_put (A := frE E) C.1 C.2.1 C.2.2.2.2.2.1 (ux_in hc.2.1) (tyF ci) hc.2.2.1 hc.2.2.2 C.2.2.2.2.1 C.2.2.2.2.2.2.2.1.1 hP (by show E.1 ≤ _; rw [ad_own ha]; omega) sv hc.1 f hf (C.w hl rfl) (hfin.imp id (fun q => ⟨q.1, C.2.2.2.2.2.2.2.2.trans q.2.1, q.2.2⟩)) (rt_ok hrt _).1 (rt_ok hrt _).2.1 (by rw [fvs_len]; exact hf) hd fun H1 locs1 e1 e2 e3 e4 => ?_
    refine hk _ _ _ hK p e s m args below meth c C H1 locs1 lsm (rp.put C.2.2.2.2.2.2.2.1.2.1 ha (fun _ => rfl) rfl (fun q hq => ?_) e2 e3 ?_) e4 hL
    · simp [sR, wR, hI, hJ, hR, va_up, hq]
    · rw [cell_obj (n := N) (by exact hs)]
      rw [fvs_set (h := h) (f := f) (v := .ref (ad E x)) (by rw [hty]; simp [sR, wR, hR, va_up]; try rfl) (fun j hj => by simp [sR, wR, hI, hJ, hR, va_up, hj])]
      exact e1
  · rename_i a r
    obtain ⟨ha, hs, hK⟩ := hK
    have hP := rp.at (p := a) (by rw [hs]; simp) ha
    rw [cell_obj hs] at hP
    refine ow_put (A := frE E) C.1 C.2.1 C.2.2.2.2.2.1 (ux_in hc.2.1) (tyF ci) hc.2.2.1 hc.2.2.2 C.2.2.2.2.1 C.2.2.2.2.2.2.2.1.1 hP (by show E.1 ≤ _; rw [ad_own ha]; omega) sv hc.1 f hf (C.w hl rfl) (hfin.imp id (fun q => ⟨q.1, C.2.2.2.2.2.2.2.2.trans q.2.1, q.2.2⟩)) (rt_ok hrt 0).2.2.1 (rt_ok hrt 0).2.2.2 (by rw [fvs_len]; exact hf) hd fun H1 locs1 e1 e2 e3 e4 => ?_
    refine hk _ _ _ hK p e s m args below meth c C H1 locs1 lsm (rp.put C.2.2.2.2.2.2.2.1.2.1 ha (fun _ => rfl) rfl (fun q hq => ?_) e2 e3 ?_) e4 hL
    · simp [sR, wR, hI, hJ, hR, va_up, hq]
    · rw [cell_obj (n := N) (by exact hs)]
      rw [fvs_set (h := h) (f := f) (v := .null) (by rw [hty]; simp [sR, wR, hR, va_up]; try rfl) (fun j hj => by simp [sR, wR, hI, hJ, hR, va_up, hj])]
      exact e1
  · exact hK.elim
theorem vin {i : Int32} {n : Nat} (h : vp_in i n) : ¬ (i < 0 ∨ n ≤ i.toNatClampNeg) := h
/-- an int[]: own, or a static -/
theorem Rep.arrI {s : State} {h : Hp} {H : Heap} {a n : Nat} (rp : Rep E s h H) (ek : EK E s) (hs : hS h a = (1, n)) : ∃ cell : Cell, H[ad E a]? = some cell ∧ s.isArrayOf cell .int ∧ cell.vm ≠ .unknown ∧ n ≤ cell.slots.size ∧ cell.slots.size.toInt32 = Int32.ofNat n ∧ ∀ j, j < n → cell.slots[j]? = some (.int (hI h a j)) := by
  rcases Nat.lt_or_ge a 9 with ha | ha
  · have := rp.2.2.2.2.1 a ha
    unfold stC at this
    rw [hs] at this
    rw [ad_st ha]
    exact this
  · have hP := rp.at (p := a) (by rw [hs]; simp) ha
    rw [cell_1 hs] at hP
    exact ⟨_, hP, (ek.1.2 0 _ rfl).1 n (fun j => .int (hI h a j)), (fun q => by cases q), by show _ ≤ (arrV _ _ _).slots.size; rw [arrV_size]; exact Nat.le_refl _, by show (arrV _ _ _).slots.size.toInt32 = _; rw [arrV_size], fun j hj => by show (arrV _ _ _).slots[_]? = _; rw [arrV_read _ _ hj]⟩
theorem Rep.arrJ {s : State} {h : Hp} {H : Heap} {a n : Nat} (rp : Rep E s h H) (ek : EK E s) (hs : hS h a = (2, n)) : ∃ cell : Cell, H[ad E a]? = some cell ∧ s.isArrayOf cell .long ∧ cell.vm ≠ .unknown ∧ n ≤ cell.slots.size ∧ cell.slots.size.toInt32 = Int32.ofNat n ∧ ∀ j, j < n → cell.slots[j]? = some (.long (hJ h a j)) := by
  rcases Nat.lt_or_ge a 9 with ha | ha
  · have := rp.2.2.2.2.1 a ha
    unfold stC at this
    rw [hs] at this
    rw [ad_st ha]
    exact this
  · have hP := rp.at (p := a) (by rw [hs]; simp) ha
    rw [cell_2 hs] at hP
    exact ⟨_, hP, (ek.1.2 1 _ rfl).1 n (fun j => .long (hJ h a j)), (fun q => by cases q), by show _ ≤ (arrV _ _ _).slots.size; rw [arrV_size]; exact Nat.le_refl _, by show (arrV _ _ _).slots.size.toInt32 = _; rw [arrV_size], fun j hj => by show (arrV _ _ _).slots[_]? = _; rw [arrV_read _ _ hj]⟩
def k_iaload (k : Kt) (ls : Lv) (st : List Value) (h : Hp) : Prop := popir st fun i a r => (hS h a).1 = 1 ∧ vp_in i (hS h a).2 ∧ k ls (.int (hI h a i.toNatClampNeg) :: r) h
theorem sd_iaload (hd : decode Y.2.1 pc = .ok (.iaload, 1)) (hk : Sd l E Y d mc ms Q cells slots (pc + 1) k) : Sd l E Y d mc ms Q cells slots pc (k_iaload k) := by
  intro ls st h hK p e s m args below meth c C H locs lsm rp sv hL
  obtain ⟨i, a, r, rfl, hs, hi, hK⟩ := popir_inv hK
  obtain ⟨cell, g1, g2, g3, g4, g4b, g5⟩ := rp.arrI C.2.2.2.2.2.2.2.1 (n := (hS h a).2) (Prod.ext hs rfl)
  exact W.iald C.1 C.2.1 g1 g2 g3 (fun q => hi (q.imp id (fun q => Nat.le_trans g4 q))) (g5 _ (Nat.not_le.mp fun q => hi (Or.inr q))) rfl rfl hd (hk _ _ _ hK p e s m args below meth c C H locs lsm rp sv hL)
def k_laload (k : Kt) (ls : Lv) (st : List Value) (h : Hp) : Prop := popir st fun i a r => (hS h a).1 = 2 ∧ vp_in i (hS h a).2 ∧ k ls (.long (hJ h a i.toNatClampNeg) :: r) h
theorem sd_laload (hd : decode Y.2.1 pc = .ok (.laload, 1)) (hk : Sd l E Y d mc ms Q cells slots (pc + 1) k) : Sd l E Y d mc ms Q cells slots pc (k_laload k) := by
  intro ls st h hK p e s m args below meth c C H locs lsm rp sv hL
  obtain ⟨i, a, r, rfl, hs, hi, hK⟩ := popir_inv hK
  obtain ⟨cell, g1, g2, g3, g4, g4b, g5⟩ := rp.arrJ C.2.2.2.2.2.2.2.1 (n := (hS h a).2) (Prod.ext hs rfl)
  exact W.lald C.1 C.2.1 g1 g2 g3 (fun q => hi (q.imp id (fun q => Nat.le_trans g4 q))) (g5 _ (Nat.not_le.mp fun q => hi (Or.inr q))) rfl rfl hd (hk _ _ _ hK p e s m args below meth c C H locs lsm rp sv hL)
def k_zaload (k : Kt) (ls : Lv) (st : List Value) (h : Hp) : Prop := popir st fun i a r => 9 ≤ a ∧ (hS h a).1 = 3 ∧ vp_in i (hS h a).2 ∧ k ls (.int (hI h a i.toNatClampNeg) :: r) h
theorem sd_zaload (hd : decode Y.2.1 pc = .ok (.baload, 1)) (hk : Sd l E Y d mc ms Q cells slots (pc + 1) k) : Sd l E Y d mc ms Q cells slots pc (k_zaload k) := by
  intro ls st h hK p e s m args below meth c C H locs lsm rp sv hL
  obtain ⟨i, a, r, rfl, ha, hs, hi, hK⟩ := popir_inv hK
  have hP := rp.P (a := a) (by rw [hs]; simp) ha
  rw [cell_3 (n := (hS h a).2) (Prod.ext hs rfl)] at hP
  exact va_zald C.1 C.2.1 C.2.2.2.2.2.2.2.1.1 hP 0 2 rfl rfl hi hd (hk _ _ _ hK p e s m args below meth c C H locs lsm rp sv hL)
def k_aaload (ki : Nat) (k : Kt) (ls : Lv) (st : List Value) (h : Hp) : Prop := popir st fun i a r => 9 ≤ a ∧ (hS h a).1 = ki ∧ vp_in i (hS h a).2 ∧ pR none (hR h a i.toNatClampNeg) (fun v => k ls (v :: r) h)
theorem sd_aaload {ki : Nat} (hki : ki = 4 ∨ ki = 5) (hd : decode Y.2.1 pc = .ok (.aaload, 1)) (hk : Sd l E Y d mc ms Q cells slots (pc + 1) k) : Sd l E Y d mc ms Q cells slots pc (k_aaload ki k) := by
  intro ls st h hK p e s m args below meth c C H locs lsm rp sv hL
  obtain ⟨i, a, r, rfl, ha, hs, hi, hK⟩ := popir_inv hK
  have hP := rp.P (a := a) (by rw [hs]; omega) ha
  have w := hk _ _ _ (pR_use hK) p e s m args below meth c C H locs lsm rp sv hL
  rw [List.map_cons, mv_rfv] at w
  rcases hki with rfl | rfl
  · rw [cell_4 (n := (hS h a).2) (Prod.ext hs rfl)] at hP
    exact va_aldq C.1 C.2.1 C.2.2.2.2.2.2.2.1.1 hP 0 3 rfl rfl hi hd w
  · rw [cell_5 (n := (hS h a).2) (Prod.ext hs rfl)] at hP
    exact va_aldq C.1 C.2.1 C.2.2.2.2.2.2.2.1.1 hP 0 4 rfl rfl hi hd w
def k_iastore (k : Kt) (ls : Lv) (st : List Value) (h : Hp) : Prop := popiir st fun x i a r => 9 ≤ a ∧ (hS h a).1 = 1 ∧ vp_in i (hS h a).2 ∧ k ls r (sI h a i.toNatClampNeg x)
theorem sd_iastore (hd : decode Y.2.1 pc = .ok (.iastore, 1)) (hk : Sd l E Y d mc ms Q cells slots (pc + 1) k) : Sd l E Y d mc ms Q cells slots pc (k_iastore k) := by
  intro ls st h hK p e s m args below meth c C H locs lsm rp sv hL
  obtain ⟨x, i, a, r, rfl, ha, hs, hi, hK⟩ := popiir_inv hK
  obtain ⟨cell, g1, g2, g3, g4, g4b, g5⟩ := rp.arrI C.2.2.2.2.2.2.2.1 (n := (hS h a).2) (Prod.ext hs rfl)
  have hP := rp.at (p := a) (by rw [hs]; simp) ha
  rw [cell_1 (n := (hS h a).2) (Prod.ext hs rfl)] at hP
  have hc : cell = arrV (E.2.2.2 1) (hS h a).2 (fun j => .int (hI h a j)) := Option.some.inj (g1.symm.trans hP)
  refine W.iast C.1 C.2.1 g1 g2 g3 (fun q => hi (q.imp id (fun q => Nat.le_trans g4 q))) rfl rfl hd fun H1 e1 e2 e3 => ?_
  refine hk _ _ _ hK p e s m args below meth c C H1 _ lsm (rp.put C.2.2.2.2.2.2.2.1.2.1 ha (fun _ => rfl) rfl (fun q hq => ?_) e2 e3 ?_) (sv.put e2 e3 (by show E.1 ≤ _; rw [ad_own ha]; omega)) hL
  · simp [sI, wI, hI, hJ, hR, va_up, hq]
  · rw [cell_1 (n := (hS h a).2) (by exact Prod.ext hs rfl)]
    show H1[ad E a]? = some (vp_cell _ _)
    rw [e1, hc, vp_cell_i, arrV_store]
    congr 2
    funext q
    by_cases hq : q = i.toNatClampNeg
    · subst hq; simp [updV, sI, wI, hI, va_up]
    · simp [updV, sI, wI, hI, va_up, hq]
def k_lastore (k : Kt) (ls : Lv) (st : List Value) (h : Hp) : Prop := popliir st fun x i a r => 9 ≤ a ∧ (hS h a).1 = 2 ∧ vp_in i (hS h a).2 ∧ k ls r (sJ h a i.toNatClampNeg x)
theorem sd_lastore (hd : decode Y.2.1 pc = .ok (.lastore, 1)) (hk : Sd l E Y d mc ms Q cells slots (pc + 1) k) : Sd l E Y d mc ms Q cells slots pc (k_lastore k) := by
  intro ls st h hK p e s m args below meth c C H locs lsm rp sv hL
  obtain ⟨x, i, a, r, rfl, ha, hs, hi, hK⟩ := popliir_inv hK
  obtain ⟨cell, g1, g2, g3, g4, g4b, g5⟩ := rp.arrJ C.2.2.2.2.2.2.2.1 (n := (hS h a).2) (Prod.ext hs rfl)
  have hP := rp.at (p := a) (by rw [hs]; simp) ha
  rw [cell_2 (n := (hS h a).2) (Prod.ext hs rfl)] at hP
  have hc : cell = arrV (E.2.2.2 2) (hS h a).2 (fun j => .long (hJ h a j)) := Option.some.inj (g1.symm.trans hP)
  refine W.last C.1 C.2.1 g1 g2 g3 (fun q => hi (q.imp id (fun q => Nat.le_trans g4 q))) rfl rfl hd fun H1 e1 e2 e3 => ?_
  refine hk _ _ _ hK p e s m args below meth c C H1 _ lsm (rp.put C.2.2.2.2.2.2.2.1.2.1 ha (fun _ => rfl) rfl (fun q hq => ?_) e2 e3 ?_) (sv.put e2 e3 (by show E.1 ≤ _; rw [ad_own ha]; omega)) hL
  · simp [sJ, wJ, hI, hJ, hR, va_up, hq]
  · rw [cell_2 (n := (hS h a).2) (by exact Prod.ext hs rfl)]
    show H1[ad E a]? = some (vp_cell _ _)
    rw [e1, hc, vp_cell_l, arrV_store]
    congr 2
    funext q
    by_cases hq : q = i.toNatClampNeg
    · subst hq; simp [updV, sJ, wJ, hJ, va_up]
    · simp [updV, sJ, wJ, hJ, va_up, hq]
def k_zastore (k : Kt) (ls : Lv) (st : List Value) (h : Hp) : Prop := popiir st fun x i a r => 9 ≤ a ∧ (hS h a).1 = 3 ∧ vp_in i (hS h a).2 ∧ zb x ∧ k ls r (sI h a i.toNatClampNeg x)
theorem sd_zastore (hd : decode Y.2.1 pc = .ok (.bastore, 1)) (hk : Sd l E Y d mc ms Q cells slots (pc + 1) k) : Sd l E Y d mc ms Q cells slots pc (k_zastore k) := by
  intro ls st h hK p e s m args below meth c C H locs lsm rp sv hL
  obtain ⟨x, i, a, r, rfl, ha, hs, hi, hn, hK⟩ := popiir_inv hK
  have hP := rp.at (p := a) (by rw [hs]; simp) ha
  rw [cell_3 (n := (hS h a).2) (Prod.ext hs rfl)] at hP
  refine W.zast (cell := arrV (E.2.2.2 3) (hS h a).2 (fun j => .int (hI h a j))) C.1 C.2.1 hP ((C.2.2.2.2.2.2.2.1.1.2 2 _ rfl).1 _ (fun j => .int (hI h a j))) (fun q => by cases q) (by rw [arrV_size]; exact hi) rfl rfl hd fun H1 e1 e2 e3 => ?_
  refine hk _ _ _ hK p e s m args below meth c C H1 _ lsm (rp.put C.2.2.2.2.2.2.2.1.2.1 ha (fun _ => rfl) rfl (fun q hq => ?_) e2 e3 ?_) (sv.put e2 e3 (by show E.1 ≤ _; rw [ad_own ha]; omega)) hL
  · simp [sI, wI, hI, hJ, hR, va_up, hq]
  · rw [cell_3 (n := (hS h a).2) (by exact Prod.ext hs rfl)]
    show H1[ad E a]? = some (vp_cell _ _)
    rw [e1, vp_cell_i, arrV_store, zb_n hn]
    congr 2
    funext q
    by_cases hq : q = i.toNatClampNeg
    · subst hq; simp [updV, sI, wI, hI, va_up]
    · simp [updV, sI, wI, hI, va_up, hq]
/-- a store of a reference into a row of references: of the class ci, or null -/
def k_aastore (ki ci N : Nat) (k : Kt) (ls : Lv) (st : List Value) (h : Hp) : Prop := match st with
  | .ref x :: .int i :: .ref a :: r => 9 ≤ a ∧ (hS h a).1 = ki ∧ vp_in i (hS h a).2 ∧ 9 ≤ x ∧ hS h x = (10 + ci, N) ∧ k ls r (sR h a i.toNatClampNeg (some x))
  | .null :: .int i :: .ref a :: r => 9 ≤ a ∧ (hS h a).1 = ki ∧ vp_in i (hS h a).2 ∧ k ls r (sR h a i.toNatClampNeg none)
  | _ => False
theorem W_aastq {p : Program} {e : Env} {R : Room} {s : State} {m : MethodId} {args : Array Value} {below : List Frame} {meth : Method} {c : Code} {H : Heap} {locs : List Loc} {Q : State → Prop} {cc : ByteArray} {ls : Array Slot} {rest : List Value} {D : va_G} {cl : List vw_C} {a : Nat} {tys : List (ClassId × FieldType)} (hexec : p.tables.exec = Jvm.exec) (hb : c.code = cc) (hK : va_K D cl tys s) (t0 ci : Nat) {cA : ClassId} {r : vw_C} {n v : Nat} {vs : List Value} {f : Nat → Option Nat} (ha : va_at D cl (a, .inl (cA, n, .inr (.inr (.inr (.inr f))))) H) (ht : tys[t0]? = some (cA, .object r.1)) (hv : va_at D cl (v, .inr (ci, vs)) H) (hc : cl[ci]? = some r) {i : Int32} (hin : vp_in i n) (hdg : decode cc pc = .ok (.aastore, 1))
    (kk : ∀ H1 : Heap, H1[a]? = some (arrV cA n (fun j => va_rf (va_up f i.toNatClampNeg (some v) j))) → H1.size = H.size → (∀ q, q ≠ a → H1[q]? = H[q]?) → W p l e R s m args below meth c H1 (locs ++ [⟨a, i.toNatClampNeg⟩]) cells slots Q (F0 m (pc + 1) ls rest)) : W p l e R s m args below meth c H locs cells slots Q (F0 m pc ls (.ref v :: .int i :: .ref a :: rest)) := by
  have hlt : i.toNatClampNeg < n := Nat.not_le.mp fun q => hin (Or.inr q)
  have h0 : ¬ i < 0 := fun q => hin (Or.inl q)
  obtain ⟨r', hr', cellV, g1, g2, g3, -⟩ := hv
  have hcls := (hK.1 ci r hc).2
  obtain ⟨kA, comp, k1, k2, k3, -⟩ := (hK.2 t0 _ ht).2
  have hcomp : comp = D.1 ci := Option.some.inj (k3.symm.trans hcls.1)
  subst hcomp
  obtain ⟨kC, hkC, -⟩ := hcls.2
  refine W.aast hexec hb ha (fun q h => by cases h) (fun h => by cases h) k1 k2 rfl hkC ⟨h0, by show _ < (arrV _ _ _).slots.size; rw [arrV_size]; exact hlt⟩ g1 (fun q h => by rw [g3] at h; cases h) (by rw [g2]; exact hkC) (by rw [g2]; exact va_assign hcls) rfl rfl hdg fun H1 e z oq => ?_
  refine kk H1 ?_ z oq
  rw [e, vp_cell_q, arrV_store]
  congr 2
  funext q
  by_cases hq : q = i.toNatClampNeg
  · subst hq
    simp [updV, va_up, va_rf]
  · simp [updV, va_up, hq]
theorem W_aastqN {p : Program} {e : Env} {R : Room} {s : State} {m : MethodId} {args : Array Value} {below : List Frame} {meth : Method} {c : Code} {H : Heap} {locs : List Loc} {Q : State → Prop} {cc : ByteArray} {ls : Array Slot} {rest : List Value} {D : va_G} {cl : List vw_C} {a : Nat} {tys : List (ClassId × FieldType)} (hexec : p.tables.exec = Jvm.exec) (hb : c.code = cc) (hK : va_K D cl tys s) (t0 : Nat) {cA : ClassId} {C : String} {n : Nat} {f : Nat → Option Nat} (ha : va_at D cl (a, .inl (cA, n, .inr (.inr (.inr (.inr f))))) H) (ht : tys[t0]? = some (cA, .object C)) {i : Int32} (hin : vp_in i n) (hdg : decode cc pc = .ok (.aastore, 1))
    (kk : ∀ H1 : Heap, H1[a]? = some (arrV cA n (fun j => va_rf (va_up f i.toNatClampNeg none j))) → H1.size = H.size → (∀ q, q ≠ a → H1[q]? = H[q]?) → W p l e R s m args below meth c H1 (locs ++ [⟨a, i.toNatClampNeg⟩]) cells slots Q (F0 m (pc + 1) ls rest)) : W p l e R s m args below meth c H locs cells slots Q (F0 m pc ls (.null :: .int i :: .ref a :: rest)) := by
  refine va_WaastN (C := C) hexec hb ha ((hK.2 t0 _ ht).1 n (fun j => va_rf (f j))) (fun h => by cases h) (by show ¬ (i < 0 ∨ (arrV _ _ _).slots.size ≤ _); rw [arrV_size]; exact hin) rfl rfl hdg fun H1 e z oq => ?_
  refine kk H1 ?_ z oq
  rw [e, vp_cell_q, arrV_store]
  congr 2
  funext q
  by_cases hq : q = i.toNatClampNeg
  · subst hq
    simp [updV, va_up, va_rf]
  · simp [updV, va_up, hq]
theorem up_map {f : Nat → Option Nat} {i : Nat} {v : Option Nat} {E : Ev} : (fun j => (va_up f i v j).map (ad E)) = va_up (fun j => (f j).map (ad E)) i (v.map (ad E)) := by
  funext j
  by_cases hj : j = i
  · subst hj; simp [va_up]
  · simp [va_up, hj]
theorem sd_aastore {ki ci N : Nat} (hki : (ki = 4 ∧ ci = 2 ∧ N = 3) ∨ (ki = 5 ∧ ci = 7 ∧ N = 15)) (hd : decode Y.2.1 pc = .ok (.aastore, 1)) (hk : Sd l E Y d mc ms Q cells slots (pc + 1) k) : Sd l E Y d mc ms Q cells slots pc (k_aastore ki ci N k) := by
  intro ls st h hK p e s m args below meth c C H locs lsm rp sv hL
  unfold k_aastore at hK
  split at hK
  · rename_i x i a r
    obtain ⟨ha, hs, hi, hx, hsx, hK⟩ := hK
    have hP := rp.at (p := a) (by rw [hs]; omega) ha
    have hV := rp.at (p := x) (by rw [hsx]; simp) hx
    rw [cell_obj hsx] at hV
    have fin : ∀ H1 : Heap, H1[ad E a]? = some (arrV (E.2.2.2 ki) (hS h a).2 (fun j => va_rf (va_up (fun j => (hR h a j).map (ad E)) i.toNatClampNeg (some (ad E x)) j))) → H1.size = H.size → (∀ q, q ≠ ad E a → H1[q]? = H[q]?) → W p l e (rmD d mc ms) s m args below meth c H1 (locs ++ [⟨ad E a, i.toNatClampNeg⟩]) cells slots (MQ below (QcP E Q) args s mc ms (frE E)) (F0 m (pc + 1) lsm (r.map (mv E))) := by
      intro H1 e1 e2 e3
      refine hk _ _ _ hK p e s m args below meth c C H1 _ lsm (rp.put C.2.2.2.2.2.2.2.1.2.1 ha (fun _ => rfl) rfl (fun q hq => ?_) e2 e3 ?_) (sv.put e2 e3 (by show E.1 ≤ _; rw [ad_own ha]; omega)) hL
      · simp [sR, wR, hI, hJ, hR, va_up, hq]
      · have hh : (hR (sR h a i.toNatClampNeg (some x)) a) = va_up (hR h a) i.toNatClampNeg (some x) := by simp [sR, wR, hR, va_up]
        rcases hki with ⟨rfl, -, -⟩ | ⟨rfl, -, -⟩
        · rw [cell_4 (n := (hS h a).2) (by exact Prod.ext hs rfl), hh, up_map]; exact e1
        · rw [cell_5 (n := (hS h a).2) (by exact Prod.ext hs rfl), hh, up_map]; exact e1
    rcases hki with ⟨rfl, rfl, rfl⟩ | ⟨rfl, rfl, rfl⟩
    · rw [cell_4 (n := (hS h a).2) (Prod.ext hs rfl)] at hP
      exact W_aastq (r := (RX2, TX2, 3)) C.1 C.2.1 C.2.2.2.2.2.2.2.1.1 3 2 hP rfl hV rfl hi hd fin
    · rw [cell_5 (n := (hS h a).2) (Prod.ext hs rfl)] at hP
      exact W_aastq (r := (RX7, TX7, 15)) C.1 C.2.1 C.2.2.2.2.2.2.2.1.1 4 7 hP rfl hV rfl hi hd fin
  · rename_i i a r
    obtain ⟨ha, hs, hi, hK⟩ := hK
    have hP := rp.at (p := a) (by rw [hs]; omega) ha
    have fin : ∀ H1 : Heap, H1[ad E a]? = some (arrV (E.2.2.2 ki) (hS h a).2 (fun j => va_rf (va_up (fun j => (hR h a j).map (ad E)) i.toNatClampNeg none j))) → H1.size = H.size → (∀ q, q ≠ ad E a → H1[q]? = H[q]?) → W p l e (rmD d mc ms) s m args below meth c H1 (locs ++ [⟨ad E a, i.toNatClampNeg⟩]) cells slots (MQ below (QcP E Q) args s mc ms (frE E)) (F0 m (pc + 1) lsm (r.map (mv E))) := by
      intro H1 e1 e2 e3
      refine hk _ _ _ hK p e s m args below meth c C H1 _ lsm (rp.put C.2.2.2.2.2.2.2.1.2.1 ha (fun _ => rfl) rfl (fun q hq => ?_) e2 e3 ?_) (sv.put e2 e3 (by show E.1 ≤ _; rw [ad_own ha]; omega)) hL
      · simp [sR, wR, hI, hJ, hR, va_up, hq]
      · have hh : (hR (sR h a i.toNatClampNeg none) a) = va_up (hR h a) i.toNatClampNeg none := by simp [sR, wR, hR, va_up]
        rcases hki with ⟨rfl, -, -⟩ | ⟨rfl, -, -⟩
        · rw [cell_4 (n := (hS h a).2) (by exact Prod.ext hs rfl), hh, up_map]; exact e1
        · rw [cell_5 (n := (hS h a).2) (by exact Prod.ext hs rfl), hh, up_map]; exact e1
    rcases hki with ⟨rfl, rfl, rfl⟩ | ⟨rfl, rfl, rfl⟩
    · rw [cell_4 (n := (hS h a).2) (Prod.ext hs rfl)] at hP
      exact W_aastqN C.1 C.2.1 C.2.2.2.2.2.2.2.1.1 3 hP rfl hi hd fin
    · rw [cell_5 (n := (hS h a).2) (Prod.ext hs rfl)] at hP
      exact W_aastqN C.1 C.2.1 C.2.2.2.2.2.2.2.1.1 4 hP rfl hi hd fin
  · exact hK.elim
def isA1 (n : Nat) : Bool := match n with
  | 1 => true
  | 2 => true
  | _ => false
def k_alen (k : Kt) (ls : Lv) (st : List Value) (h : Hp) : Prop := pop1r st fun a r => ((hS h a).1 = 1 ∨ (hS h a).1 = 2) ∧ k ls (.int (Int32.ofNat (hS h a).2) :: r) h
theorem sd_alen (hd : decode Y.2.1 pc = .ok (.arraylength, 1)) (hk : Sd l E Y d mc ms Q cells slots (pc + 1) k) : Sd l E Y d mc ms Q cells slots pc (k_alen k) := by
  intro ls st h hK p e s m args below meth c C H locs lsm rp sv hL
  obtain ⟨a, r, rfl, hs, hK⟩ := pop1r_inv hK
  rcases hs with hs | hs
  · obtain ⟨cell, g1, g2, g3, g4, g4b, g5⟩ := rp.arrI C.2.2.2.2.2.2.2.1 (n := (hS h a).2) (Prod.ext hs rfl)
    exact W.alen C.1 C.2.1 g1 g2 g4b rfl rfl hd (hk _ _ _ hK p e s m args below meth c C H locs lsm rp sv hL)
  · obtain ⟨cell, g1, g2, g3, g4, g4b, g5⟩ := rp.arrJ C.2.2.2.2.2.2.2.1 (n := (hS h a).2) (Prod.ext hs rfl)
    exact W.alen C.1 C.2.1 g1 g2 g4b rfl rfl hd (hk _ _ _ hK p e s m args below meth c C H locs lsm rp sv hL)
end MEM
