/-! A METHOD: name, code, locals, answer's type. Its words are all the good words of the tables. -/
abbrev My : Type := MethodName × ByteArray × Nat × Option FieldType
def gTbl : List Cond := lw_tbl.filter goodWord
theorem gTbl_in {w : Cond} (h : w ∈ lw_tbl) (hg : goodWord w = true) : w ∈ gTbl := List.mem_filter.mpr ⟨h, hg⟩
def wsM (Y : My) : List Cond := .code Y.1 Y.2.1 Y.2.2.1 Y.2.2.2 :: gTbl
def rmD (d mc ms : Nat) : Room := { frames := d, cells := mc, slots := ms, locals := 64 * d }
def frE (E : Ev) : Addr → Prop := fun q => E.1 ≤ q
def QcP (E : Ev) (Q : Option Value → Hp → Prop) : Array Value → State → Outcome → State → Prop := fun _ st oc t => (∃ r h', Q r h' ∧ oc = .returned (r.map (mv E)) ∧ Rep E t h' t.heap) ∧ va_F (frE E) st t
/-- method Y, called with these arguments over this pure heap, returns with Q; d: how many frames it may use, mc, ms: cells and slots -/
def GoM (l : Launch) (E : Ev) (Y : My) (d mc ms : Nat) (av : List Value) (h : Hp) (Q : Option Value → Hp → Prop) : Prop :=
  Met l Y.1 (wsM Y) (rmD d mc ms) (va_Pc (av.map (mv E)) (fun U => Rep E U h U.heap ∧ EK E U)) (QcP E Q) mc ms (frE E)
def Cx (Y : My) (E : Ev) (p : Program) (s : State) (m : MethodId) (args : Array Value) (meth : Method) (c : Code) : Prop :=
  p.tables.exec = Jvm.exec ∧ c.code = Y.2.1 ∧ meth.sig.returnType = Y.2.2.2 ∧ c.maxLocals = Y.2.2.1 ∧ s.vm.findClass Y.1.cls = some m.cls ∧ (∀ w ∈ gTbl, w.before args s = true) ∧ meth.locks = false ∧ EK E s ∧ meth.name = Y.1.name
abbrev Lv : Type := List (Option Value)
def LH (E : Ev) (lsm : Array Slot) (nL : Nat) (ls : Lv) : Prop := lsm.size = nL ∧ lv_wf lsm ∧ ∀ (n : Nat) (v : Value), ls[n]? = some (some v) → lsm[n]? = some (Slot.val (mv E v))
abbrev Kt : Type := Lv → List Value → Hp → Prop
/-- from this place on the method comes to its end with Q -/
def Go (l : Launch) (E : Ev) (Y : My) (d mc ms : Nat) (Q : Option Value → Hp → Prop) (cells slots pc : Nat) (ls : Lv) (st : List Value) (h : Hp) : Prop :=
  ∀ (p : Program) (e : Env) (s : State) (m : MethodId) (args : Array Value) (below : List Frame) (meth : Method) (c : Code), Cx Y E p s m args meth c → ∀ (H : Heap) (locs : List Loc) (lsm : Array Slot), Rep E s h H → va_S (frE E) s.heap H locs → LH E lsm Y.2.2.1 ls →
    W p l e (rmD d mc ms) s m args below meth c H locs cells slots (MQ below (QcP E Q) args s mc ms (frE E)) (F0 m pc lsm (st.map (mv E)))
def Sd (l : Launch) (E : Ev) (Y : My) (d mc ms : Nat) (Q : Option Value → Hp → Prop) (cells slots pc : Nat) (k : Kt) : Prop := ∀ ls st h, k ls st h → Go l E Y d mc ms Q cells slots pc ls st h
/-! the locals -/
def lclr (ls : Lv) (k : Nat) : Lv := match ls[k]? with
  | some (some v) => if v.category = 2 then ls.set k none else ls
  | _ => ls
def lset1 (ls : Lv) (n : Nat) (v : Value) : Lv := match n with
  | 0 => ls.set 0 (some v)
  | k + 1 => (lclr ls k).set (k + 1) (some v)
theorem lclr_get {ls : Lv} {k n : Nat} {w : Value} (h : (lclr ls k)[n]? = some (some w)) : ls[n]? = some (some w) ∧ ¬ (n = k ∧ w.category = 2) := by
  unfold lclr at h
  split at h
  · rename_i v hv
    split at h
    · rw [List.getElem?_set] at h
      split at h
      · split at h <;> cases h
      · rename_i e
        exact ⟨h, fun q => e q.1.symm⟩
    · rename_i hc
      refine ⟨h, ?_⟩
      rintro ⟨rfl, q⟩
      rw [h] at hv
      cases hv
      exact hc q
  · rename_i hne
    refine ⟨h, ?_⟩
    rintro ⟨rfl, -⟩
    exact hne _ h
def lset2 (ls : Lv) (n : Nat) (v : Value) : Lv := (lset1 ls n v).set (n + 1) none
/-! the same with what goes on behind: read from the outside in -/
def lgetK (ls : Lv) (n : Nat) (f : Option Value → Prop) : Prop := match ls, n with
  | [], _ => False
  | x :: _, 0 => f x
  | _ :: t, n + 1 => lgetK t n f
def lputK (ls : Lv) (n : Nat) (v : Option Value) (f : Lv → Prop) : Prop := match ls, n with
  | [], _ => f []
  | _ :: t, 0 => f (v :: t)
  | x :: t, n + 1 => lputK t n v (fun t' => f (x :: t'))
def clrV (x : Option Value) (f : Option Value → Prop) : Prop := match x with
  | none => f none
  | some (.int v) => f (some (.int v))
  | some (.ref v) => f (some (.ref v))
  | some .null => f (some .null)
  | some (.long _) => f none
  | some (.double _) => f none
  | some (.float v) => f (some (.float v))
  | some (.retAddr v) => f (some (.retAddr v))
def lclrK (ls : Lv) (n : Nat) (f : Lv → Prop) : Prop := match ls, n with
  | [], _ => f []
  | x :: t, 0 => clrV x (fun x' => f (x' :: t))
  | x :: t, n + 1 => lclrK t n (fun t' => f (x :: t'))
theorem lgetK_inv : ∀ {ls : Lv} {n : Nat} {f : Option Value → Prop}, lgetK ls n f → ∃ x, ls[n]? = some x ∧ f x
  | [], _, _, h => h.elim
  | x :: _, 0, _, h => ⟨x, rfl, h⟩
  | _ :: t, n + 1, f, h => by
    obtain ⟨x, h1, h2⟩ := lgetK_inv (ls := t) (n := n) h
    exact ⟨x, by simpa using h1, h2⟩
theorem lputK_inv : ∀ {ls : Lv} {n : Nat} {v : Option Value} {f : Lv → Prop}, lputK ls n v f → f (ls.set n v)
  | [], _, _, _, h => h
  | _ :: _, 0, _, _, h => h
  | _ :: t, n + 1, v, f, h => lputK_inv (ls := t) (n := n) h
theorem clrV_inv {x : Option Value} {f : Option Value → Prop} (h : clrV x f) : f (match x with
  | some v => if v.category = 2 then none else some v
  | none => none) := by
  match x, h with
  | none, h => exact h
  | some (.int _), h => exact h
  | some (.ref _), h => exact h
  | some .null, h => exact h
  | some (.long _), h => exact h
  | some (.double _), h => exact h
  | some (.float _), h => exact h
  | some (.retAddr _), h => exact h
theorem lclr_cons (x : Option Value) (t : Lv) (n : Nat) : lclr (x :: t) (n + 1) = x :: lclr t n := by
  unfold lclr
  rw [List.getElem?_cons_succ]
  cases t[n]? with
  | none => rfl
  | some w =>
    cases w with
    | none => rfl
    | some v =>
      dsimp only
      by_cases hc : v.category = 2
      · rw [if_pos hc, if_pos hc, List.set_cons_succ]
      · rw [if_neg hc, if_neg hc]
theorem lclrK_inv : ∀ {ls : Lv} {n : Nat} {f : Lv → Prop}, lclrK ls n f → f (lclr ls n)
  | [], n, f, h => by
    have h : f [] := by cases n <;> exact h
    simpa [lclr] using h
  | x :: t, 0, f, h => by
    have := clrV_inv h
    unfold lclr
    cases x with
    | none => simpa using this
    | some v =>
      dsimp only at this
      simp only [List.getElem?_cons_zero]
      split at this
      · rename_i hc; rw [if_pos hc]; exact this
      · rename_i hc; rw [if_neg hc]; exact this
  | x :: t, n + 1, f, h => by
    have := lclrK_inv (ls := t) (n := n) h
    rw [lclr_cons]
    exact this
def ls1K (ls : Lv) (n : Nat) (v : Value) (f : Lv → Prop) : Prop := match n with
  | 0 => lputK ls 0 (some v) f
  | k + 1 => lclrK ls k (fun ls1 => lputK ls1 (k + 1) (some v) f)
def ls2K (ls : Lv) (n : Nat) (v : Value) (f : Lv → Prop) : Prop := ls1K ls n v (fun ls1 => lputK ls1 (n + 1) none f)
theorem ls1K_inv {ls : Lv} {n : Nat} {v : Value} {f : Lv → Prop} (h : ls1K ls n v f) : f (lset1 ls n v) := by
  cases n with
  | zero => exact lputK_inv h
  | succ k => exact lputK_inv (lclrK_inv h)
theorem ls2K_inv {ls : Lv} {n : Nat} {v : Value} {f : Lv → Prop} (h : ls2K ls n v f) : f (lset2 ls n v) := lputK_inv (ls1K_inv h)
def lassoc (E : Ev) (ls : Lv) : List (Nat × Value) := (List.range ls.length).filterMap (fun n => match ls[n]? with
  | some (some v) => some (n, mv E v)
  | _ => none)
theorem lassoc_mem {E : Ev} {ls : Lv} {n : Nat} {v : Value} (h : ls[n]? = some (some v)) : (n, mv E v) ∈ lassoc E ls := by
  refine List.mem_filterMap.mpr ⟨n, List.mem_range.mpr (List.getElem?_eq_some_iff.mp h).1, ?_⟩
  rw [h]
theorem LH.has {E : Ev} {lsm : Array Slot} {nL : Nat} {ls : Lv} (h : LH E lsm nL ls) : lv_has lsm nL (lassoc E ls) := by
  refine ⟨h.1, h.2.1, fun q hq => ?_⟩
  obtain ⟨n, -, hn⟩ := List.mem_filterMap.mp hq
  split at hn
  · rename_i v hv
    cases hn
    exact h.2.2 n v hv
  · cases hn
theorem lset1_get {ls : Lv} {i n : Nat} {v w : Value} (h : (lset1 ls i v)[n]? = some (some w)) : (n = i ∧ w = v) ∨ (n ≠ i ∧ ls[n]? = some (some w) ∧ ¬ (n + 1 = i ∧ w.category = 2)) := by
  cases i with
  | zero =>
    rw [lset1, List.getElem?_set] at h
    split at h
    · split at h
      · left; rename_i e _; simp at h; exact ⟨e.symm, h.symm⟩
      · cases h
    · right; rename_i e; exact ⟨fun q => e q.symm, h, fun q => by omega⟩
  | succ k =>
    rw [lset1, List.getElem?_set] at h
    split at h
    · split at h
      · left; rename_i e _; simp at h; exact ⟨e.symm, h.symm⟩
      · cases h
    · right
      rename_i e
      obtain ⟨h1, h2⟩ := lclr_get h
      exact ⟨fun q => e q.symm, h1, fun q => h2 ⟨by omega, q.2⟩⟩
theorem LH.of {E : Ev} {lsm : Array Slot} {nL : Nat} {l : List (Nat × Value)} {ls : Lv} (h : lv_has lsm nL l) (hm : ∀ n v, ls[n]? = some (some v) → (n, mv E v) ∈ l) : LH E lsm nL ls := ⟨h.1, h.2.1, fun n v hv => h.2.2 (n, mv E v) (hm n v hv)⟩
theorem LH.set1 {E : Ev} {nL : Nat} {ls : Lv} {i : Nat} {v : Value} {lsm' : Array Slot} (h' : lv_has lsm' nL ((i, mv E v) :: (lassoc E ls).filter (fun q => !(q.1 == i) && !(q.1 + 1 == i && q.2.category == 2)))) : LH E lsm' nL (lset1 ls i v) := by
  refine LH.of h' fun n w hw => ?_
  rcases lset1_get hw with ⟨rfl, rfl⟩ | ⟨h1, h2, h3⟩
  · exact List.mem_cons_self
  · refine List.mem_cons_of_mem _ (List.mem_filter.mpr ⟨lassoc_mem h2, ?_⟩)
    have hne : ¬ (n == i) = true := by simpa using h1
    simp only [Bool.and_eq_true, Bool.not_eq_true', Bool.and_eq_false_iff]
    refine ⟨by simpa using h1, ?_⟩
    by_cases e : n + 1 = i
    · right
      rw [beq_eq_false_iff_ne]
      intro hc
      exact h3 ⟨e, by rw [← mv_cat E]; exact hc⟩
    · left
      simpa using e
theorem LH.set2 {E : Ev} {nL : Nat} {ls : Lv} {i : Nat} {v : Value} {lsm' : Array Slot} (h' : lv_has lsm' nL ((i, mv E v) :: (lassoc E ls).filter (fun q => !(q.1 == i) && (!(q.1 == i + 1) && !(q.1 + 1 == i && q.2.category == 2))))) : LH E lsm' nL (lset2 ls i v) := by
  refine LH.of h' fun n w hw => ?_
  rw [lset2, List.getElem?_set] at hw
  split at hw
  · split at hw <;> cases hw
  · rename_i e0
    rcases lset1_get hw with ⟨rfl, rfl⟩ | ⟨h1, h2, h3⟩
    · exact List.mem_cons_self
    · refine List.mem_cons_of_mem _ (List.mem_filter.mpr ⟨lassoc_mem h2, ?_⟩)
      simp only [Bool.and_eq_true, Bool.not_eq_true', Bool.and_eq_false_iff]
      refine ⟨by simpa using h1, by simpa using fun q => e0 q.symm, ?_⟩
      by_cases e : n + 1 = i
      · right
        rw [beq_eq_false_iff_ne]
        intro hc
        exact h3 ⟨e, by rw [← mv_cat E]; exact hc⟩
      · left
        simpa using e
/-! what a call's end goes on with -/
def kont (k : Kt) (ls : Lv) (rest : List Value) (r : Option Value) (h : Hp) : Prop := k ls (r.toList ++ rest) h
theorem kont_s (k : Kt) (ls : Lv) (rest : List Value) (v : Value) (h : Hp) : kont k ls rest (some v) h = k ls (v :: rest) h := rfl
theorem kont_n (k : Kt) (ls : Lv) (rest : List Value) (h : Hp) : kont k ls rest none h = k ls rest h := rfl
/-! pops -/
def pop1i (st : List Value) (f : Int32 → List Value → Prop) : Prop := match st with
  | .int x0 :: r => f x0 r
  | _ => False
theorem pop1i_inv {st : List Value} {f : Int32 → List Value → Prop} (h : pop1i st f) : ∃ x0 r, st = .int x0 :: r ∧ f x0 r := by
  unfold pop1i at h
  split at h
  · exact ⟨_, _, rfl, h⟩
  · exact h.elim
def pop1l (st : List Value) (f : Int64 → List Value → Prop) : Prop := match st with
  | .long x0 :: r => f x0 r
  | _ => False
theorem pop1l_inv {st : List Value} {f : Int64 → List Value → Prop} (h : pop1l st f) : ∃ x0 r, st = .long x0 :: r ∧ f x0 r := by
  unfold pop1l at h
  split at h
  · exact ⟨_, _, rfl, h⟩
  · exact h.elim
def pop1r (st : List Value) (f : Nat → List Value → Prop) : Prop := match st with
  | .ref x0 :: r => f x0 r
  | _ => False
theorem pop1r_inv {st : List Value} {f : Nat → List Value → Prop} (h : pop1r st f) : ∃ x0 r, st = .ref x0 :: r ∧ f x0 r := by
  unfold pop1r at h
  split at h
  · exact ⟨_, _, rfl, h⟩
  · exact h.elim
def pop2i (st : List Value) (f : Int32 → Int32 → List Value → Prop) : Prop := match st with
  | .int x0 :: .int x1 :: r => f x0 x1 r
  | _ => False
theorem pop2i_inv {st : List Value} {f : Int32 → Int32 → List Value → Prop} (h : pop2i st f) : ∃ x0 x1 r, st = .int x0 :: .int x1 :: r ∧ f x0 x1 r := by
  unfold pop2i at h
  split at h
  · exact ⟨_, _, _, rfl, h⟩
  · exact h.elim
def pop2l (st : List Value) (f : Int64 → Int64 → List Value → Prop) : Prop := match st with
  | .long x0 :: .long x1 :: r => f x0 x1 r
  | _ => False
theorem pop2l_inv {st : List Value} {f : Int64 → Int64 → List Value → Prop} (h : pop2l st f) : ∃ x0 x1 r, st = .long x0 :: .long x1 :: r ∧ f x0 x1 r := by
  unfold pop2l at h
  split at h
  · exact ⟨_, _, _, rfl, h⟩
  · exact h.elim
def popil (st : List Value) (f : Int32 → Int64 → List Value → Prop) : Prop := match st with
  | .int x0 :: .long x1 :: r => f x0 x1 r
  | _ => False
theorem popil_inv {st : List Value} {f : Int32 → Int64 → List Value → Prop} (h : popil st f) : ∃ x0 x1 r, st = .int x0 :: .long x1 :: r ∧ f x0 x1 r := by
  unfold popil at h
  split at h
  · exact ⟨_, _, _, rfl, h⟩
  · exact h.elim
def popir (st : List Value) (f : Int32 → Nat → List Value → Prop) : Prop := match st with
  | .int x0 :: .ref x1 :: r => f x0 x1 r
  | _ => False
theorem popir_inv {st : List Value} {f : Int32 → Nat → List Value → Prop} (h : popir st f) : ∃ x0 x1 r, st = .int x0 :: .ref x1 :: r ∧ f x0 x1 r := by
  unfold popir at h
  split at h
  · exact ⟨_, _, _, rfl, h⟩
  · exact h.elim
def poplr (st : List Value) (f : Int64 → Nat → List Value → Prop) : Prop := match st with
  | .long x0 :: .ref x1 :: r => f x0 x1 r
  | _ => False
theorem poplr_inv {st : List Value} {f : Int64 → Nat → List Value → Prop} (h : poplr st f) : ∃ x0 x1 r, st = .long x0 :: .ref x1 :: r ∧ f x0 x1 r := by
  unfold poplr at h
  split at h
  · exact ⟨_, _, _, rfl, h⟩
  · exact h.elim
def popiir (st : List Value) (f : Int32 → Int32 → Nat → List Value → Prop) : Prop := match st with
  | .int x0 :: .int x1 :: .ref x2 :: r => f x0 x1 x2 r
  | _ => False
theorem popiir_inv {st : List Value} {f : Int32 → Int32 → Nat → List Value → Prop} (h : popiir st f) : ∃ x0 x1 x2 r, st = .int x0 :: .int x1 :: .ref x2 :: r ∧ f x0 x1 x2 r := by
  unfold popiir at h
  split at h
  · exact ⟨_, _, _, _, rfl, h⟩
  · exact h.elim
def popliir (st : List Value) (f : Int64 → Int32 → Nat → List Value → Prop) : Prop := match st with
  | .long x0 :: .int x1 :: .ref x2 :: r => f x0 x1 x2 r
  | _ => False
theorem popliir_inv {st : List Value} {f : Int64 → Int32 → Nat → List Value → Prop} (h : popliir st f) : ∃ x0 x1 x2 r, st = .long x0 :: .int x1 :: .ref x2 :: r ∧ f x0 x1 x2 r := by
  unfold popliir at h
  split at h
  · exact ⟨_, _, _, _, rfl, h⟩
  · exact h.elim
def zb (x : Int32) : Prop := x = 0 ∨ x = 1
theorem zb_n {x : Int32} (h : zb x) : narrow .boolean (.int x) = .int x := by rcases h with rfl | rfl <;> rfl
theorem zb_f {x : Int32} (h : zb x) : fits .boolean (.int x) = true := by rcases h with rfl | rfl <;> rfl
theorem zb_0 : zb 0 := Or.inl rfl
theorem zb_1 : zb 1 := Or.inr rfl
def rok (ty : FieldType) (v : Int32) : Prop := match ty with
  | .int => True
  | .boolean => zb v
  | t => narrow t (.int v) = .int v
theorem rok_n {ty : FieldType} {v : Int32} (h : rok ty v) : narrow ty (.int v) = .int v := by
  cases ty <;> first | rfl | exact zb_n h | exact h
theorem rok_i (v : Int32) : rok .int v = True := rfl
theorem rok_z (v : Int32) : rok .boolean v = zb v := rfl
def catS (st : List Value) : Nat := match st with
  | [] => 0
  | v :: t => v.category + catS t
def popNK (n : Nat) (acc st : List Value) (f : List Value → List Value → Prop) : Prop := match n, st with
  | 0, st => f acc st
  | n + 1, v :: t => popNK n (v :: acc) t f
  | _ + 1, [] => False
theorem popN_inv : ∀ {n : Nat} {acc st : List Value} {f : List Value → List Value → Prop}, popNK n acc st f → n ≤ st.length ∧ f ((st.take n).reverse ++ acc) (st.drop n)
  | 0, acc, st, f, h => ⟨Nat.zero_le _, by simpa [popNK] using h⟩
  | n + 1, acc, v :: t, f, h => by
    obtain ⟨h1, h2⟩ := popN_inv (n := n) (acc := v :: acc) (st := t) h
    exact ⟨by simpa using h1, by simpa using h2⟩
  | _ + 1, _, [], _, h => h.elim
section SD
variable {l : Launch} {E : Ev} {Y : My} {d mc ms cells slots pc : Nat} {Q : Option Value → Hp → Prop} {k kt kf : Kt}
theorem Sd.go : Sd l E Y d mc ms Q cells slots pc (Go l E Y d mc ms Q cells slots pc) := fun _ _ _ h => h
def k_push (v : Value) (k : Kt) (ls : Lv) (st : List Value) (h : Hp) : Prop := k ls (v :: st) h
theorem sd_iconst {n : Int} {v : Int32} (hv : Int32.ofInt n = v) (hd : decode Y.2.1 pc = .ok (.iconst n, 1)) (hk : Sd l E Y d mc ms Q cells slots (pc + 1) k) : Sd l E Y d mc ms Q cells slots pc (k_push (.int v) k) := by
  intro ls st h hK p e s m args below meth c C H locs lsm hR hS hL
  exact lv_iconst C.1 C.2.1 hd hv (hk _ _ _ hK p e s m args below meth c C H locs lsm hR hS hL)
theorem sd_bipush {n : Int} {v : Int32} (hv : (Int8.ofInt n).toInt32 = v) (hd : decode Y.2.1 pc = .ok (.bipush n, 2)) (hk : Sd l E Y d mc ms Q cells slots (pc + 2) k) : Sd l E Y d mc ms Q cells slots pc (k_push (.int v) k) := by
  intro ls st h hK p e s m args below meth c C H locs lsm hR hS hL
  exact lv_bipush C.1 C.2.1 hd hv (hk _ _ _ hK p e s m args below meth c C H locs lsm hR hS hL)
theorem sd_sipush {n : Int} {v : Int32} (hv : (Int16.ofInt n).toInt32 = v) (hd : decode Y.2.1 pc = .ok (.sipush n, 3)) (hk : Sd l E Y d mc ms Q cells slots (pc + 3) k) : Sd l E Y d mc ms Q cells slots pc (k_push (.int v) k) := by
  intro ls st h hK p e s m args below meth c C H locs lsm hR hS hL
  exact lv_sipush C.1 C.2.1 hd hv (hk _ _ _ hK p e s m args below meth c C H locs lsm hR hS hL)
theorem sd_lconst {n : Fin 2} {v : Int64} (hv : Int64.ofNat (n : Nat) = v) (hd : decode Y.2.1 pc = .ok (.lconst n, 1)) (hk : Sd l E Y d mc ms Q cells slots (pc + 1) k) : Sd l E Y d mc ms Q cells slots pc (k_push (.long v) k) := by
  intro ls st h hK p e s m args below meth c C H locs lsm hR hS hL
  exact lv_lconst C.1 C.2.1 hd hv (hk _ _ _ hK p e s m args below meth c C H locs lsm hR hS hL)
theorem sd_null  (hd : decode Y.2.1 pc = .ok (.aconst_null, 1)) (hk : Sd l E Y d mc ms Q cells slots (pc + 1) k) : Sd l E Y d mc ms Q cells slots pc (k_push (.null) k) := by
  intro ls st h hK p e s m args below meth c C H locs lsm hR hS hL
  exact lv_null C.1 C.2.1 hd (hk _ _ _ hK p e s m args below meth c C H locs lsm hR hS hL)
theorem sd_ldc {i : Nat} {v : Int32} (hc : Cond.constant Y.1.cls i v ∈ lw_tbl) (hd : decode Y.2.1 pc = .ok (.ldc i, 2)) (hk : Sd l E Y d mc ms Q cells slots (pc + 2) k) : Sd l E Y d mc ms Q cells slots pc (k_push (.int v) k) := by
  intro ls st h hK p e s m args below meth c C H locs lsm hR hS hL
  exact lv_ldc C.1 C.2.1 C.2.2.2.2.1 (C.2.2.2.2.2.1 _ (gTbl_in hc rfl)) hd (hk _ _ _ hK p e s m args below meth c C H locs lsm hR hS hL)
theorem sd_ldcw {i : Nat} {v : Int32} (hc : Cond.constant Y.1.cls i v ∈ lw_tbl) (hd : decode Y.2.1 pc = .ok (.ldc_w i, 3)) (hk : Sd l E Y d mc ms Q cells slots (pc + 3) k) : Sd l E Y d mc ms Q cells slots pc (k_push (.int v) k) := by
  intro ls st h hK p e s m args below meth c C H locs lsm hR hS hL
  exact lv_ldcw C.1 C.2.1 C.2.2.2.2.1 (C.2.2.2.2.2.1 _ (gTbl_in hc rfl)) hd (hk _ _ _ hK p e s m args below meth c C H locs lsm hR hS hL)
theorem sd_ldc2 {i : Nat} {v : Int64} (hc : Cond.constantLong Y.1.cls i v ∈ lw_tbl) (hd : decode Y.2.1 pc = .ok (.ldc2_w i, 3)) (hk : Sd l E Y d mc ms Q cells slots (pc + 3) k) : Sd l E Y d mc ms Q cells slots pc (k_push (.long v) k) := by
  intro ls st h hK p e s m args below meth c C H locs lsm hR hS hL
  exact lv_ldc2 C.1 C.2.1 C.2.2.2.2.1 (C.2.2.2.2.2.1 _ (gTbl_in hc rfl)) hd (hk _ _ _ hK p e s m args below meth c C H locs lsm hR hS hL)
def gvI (x : Option Value) (f : Int32 → Prop) : Prop := match x with
  | some (.int v) => f v
  | _ => False
def gvL (x : Option Value) (f : Int64 → Prop) : Prop := match x with
  | some (.long v) => f v
  | _ => False
def gvA (x : Option Value) (f : Value → Prop) : Prop := match x with
  | some (.ref v) => f (.ref v)
  | some .null => f .null
  | _ => False
theorem gvI_inv {x : Option Value} {f : Int32 → Prop} (h : gvI x f) : ∃ v, x = some (.int v) ∧ f v := by
  unfold gvI at h
  split at h
  · exact ⟨_, rfl, h⟩
  · exact h.elim
theorem gvL_inv {x : Option Value} {f : Int64 → Prop} (h : gvL x f) : ∃ v, x = some (.long v) ∧ f v := by
  unfold gvL at h
  split at h
  · exact ⟨_, rfl, h⟩
  · exact h.elim
theorem gvA_inv {x : Option Value} {f : Value → Prop} (h : gvA x f) : (∃ v, x = some (.ref v) ∧ f (.ref v)) ∨ (x = some .null ∧ f .null) := by
  unfold gvA at h
  split at h
  · exact Or.inl ⟨_, rfl, h⟩
  · exact Or.inr ⟨rfl, h⟩
  · exact h.elim
def k_iload (n : Nat) (k : Kt) (ls : Lv) (st : List Value) (h : Hp) : Prop := lgetK ls n fun v => gvI v fun x => k ls (.int x :: st) h
theorem k_iload_inv {n : Nat} {ls : Lv} {st : List Value} {h : Hp} (hK : k_iload n k ls st h) : ∃ x, ls[n]? = some (some (.int x)) ∧ k ls (.int x :: st) h := by
  obtain ⟨v, h1, h2⟩ := lgetK_inv hK
  obtain ⟨x, rfl, h3⟩ := gvI_inv h2
  exact ⟨x, h1, h3⟩
theorem sd_iload_n {n : Fin 4} {i : Nat} (hi : (n : Nat) = i) (hd : decode Y.2.1 pc = .ok (.iload_n n, 1)) (hk : Sd l E Y d mc ms Q cells slots (pc + 1) k) : Sd l E Y d mc ms Q cells slots pc (k_iload i k) := by
  intro ls st h hK p e s m args below meth c C H locs lsm hR hS hL
  obtain ⟨x, hx, hK⟩ := k_iload_inv hK
  exact lv_iload_n C.1 C.2.1 hd hi (hL.2.2 _ _ hx) (hk _ _ _ hK p e s m args below meth c C H locs lsm hR hS hL)
theorem sd_iload {n : Nat} (hd : decode Y.2.1 pc = .ok (.iload n, 2)) (hk : Sd l E Y d mc ms Q cells slots (pc + 2) k) : Sd l E Y d mc ms Q cells slots pc (k_iload n k) := by
  intro ls st h hK p e s m args below meth c C H locs lsm hR hS hL
  obtain ⟨x, hx, hK⟩ := k_iload_inv hK
  exact lv_iload C.1 C.2.1 hd (hL.2.2 _ _ hx) (hk _ _ _ hK p e s m args below meth c C H locs lsm hR hS hL)
def k_lload (n : Nat) (k : Kt) (ls : Lv) (st : List Value) (h : Hp) : Prop := lgetK ls n fun v => gvL v fun x => k ls (.long x :: st) h
theorem k_lload_inv {n : Nat} {ls : Lv} {st : List Value} {h : Hp} (hK : k_lload n k ls st h) : ∃ x, ls[n]? = some (some (.long x)) ∧ k ls (.long x :: st) h := by
  obtain ⟨v, h1, h2⟩ := lgetK_inv hK
  obtain ⟨x, rfl, h3⟩ := gvL_inv h2
  exact ⟨x, h1, h3⟩
theorem sd_lload_n {n : Fin 4} {i : Nat} (hi : (n : Nat) = i) (hd : decode Y.2.1 pc = .ok (.lload_n n, 1)) (hk : Sd l E Y d mc ms Q cells slots (pc + 1) k) : Sd l E Y d mc ms Q cells slots pc (k_lload i k) := by
  intro ls st h hK p e s m args below meth c C H locs lsm hR hS hL
  obtain ⟨x, hx, hK⟩ := k_lload_inv hK
  exact lv_lload_n C.1 C.2.1 hd hi (hL.2.2 _ _ hx) (hk _ _ _ hK p e s m args below meth c C H locs lsm hR hS hL)
theorem sd_lload {n : Nat} (hd : decode Y.2.1 pc = .ok (.lload n, 2)) (hk : Sd l E Y d mc ms Q cells slots (pc + 2) k) : Sd l E Y d mc ms Q cells slots pc (k_lload n k) := by
  intro ls st h hK p e s m args below meth c C H locs lsm hR hS hL
  obtain ⟨x, hx, hK⟩ := k_lload_inv hK
  exact lv_lload C.1 C.2.1 hd (hL.2.2 _ _ hx) (hk _ _ _ hK p e s m args below meth c C H locs lsm hR hS hL)
def k_aload (n : Nat) (k : Kt) (ls : Lv) (st : List Value) (h : Hp) : Prop := lgetK ls n fun v => gvA v fun x => k ls (x :: st) h
theorem sd_aload_n {n : Fin 4} {i : Nat} (hi : (n : Nat) = i) (hd : decode Y.2.1 pc = .ok (.aload_n n, 1)) (hk : Sd l E Y d mc ms Q cells slots (pc + 1) k) : Sd l E Y d mc ms Q cells slots pc (k_aload i k) := by
  intro ls st h hK p e s m args below meth c C H locs lsm hR hS hL
  obtain ⟨v, hx, h2⟩ := lgetK_inv hK
  rcases gvA_inv h2 with ⟨x, rfl, hK⟩ | ⟨rfl, hK⟩
  · exact lv_aload_n C.1 C.2.1 hd hi (hL.2.2 _ _ hx) (hk _ _ _ hK p e s m args below meth c C H locs lsm hR hS hL)
  · exact lv_aload_nN C.1 C.2.1 hd hi (hL.2.2 _ _ hx) (hk _ _ _ hK p e s m args below meth c C H locs lsm hR hS hL)
theorem sd_aload {n : Nat} (hd : decode Y.2.1 pc = .ok (.aload n, 2)) (hk : Sd l E Y d mc ms Q cells slots (pc + 2) k) : Sd l E Y d mc ms Q cells slots pc (k_aload n k) := by
  intro ls st h hK p e s m args below meth c C H locs lsm hR hS hL
  obtain ⟨v, hx, h2⟩ := lgetK_inv hK
  rcases gvA_inv h2 with ⟨x, rfl, hK⟩ | ⟨rfl, hK⟩
  · exact lv_aload C.1 C.2.1 hd (hL.2.2 _ _ hx) (hk _ _ _ hK p e s m args below meth c C H locs lsm hR hS hL)
  · exact lv_aloadN C.1 C.2.1 hd (hL.2.2 _ _ hx) (hk _ _ _ hK p e s m args below meth c C H locs lsm hR hS hL)
def k_istore (n : Nat) (k : Kt) (ls : Lv) (st : List Value) (h : Hp) : Prop := pop1i st fun x r => ls1K ls n (.int x) fun ls2 => k ls2 r h
theorem sd_istore_n {n : Fin 4} {i : Nat} (hi : (n : Nat) = i) (hn : i < Y.2.2.1) (hd : decode Y.2.1 pc = .ok (.istore_n n, 1)) (hk : Sd l E Y d mc ms Q cells slots (pc + 1) k) : Sd l E Y d mc ms Q cells slots pc (k_istore i k) := by
  intro ls st h hK p e s m args below meth c C H locs lsm hR hS hL
  obtain ⟨x, r, rfl, hK⟩ := pop1i_inv hK
  have hK := ls1K_inv hK
  exact lv_istore_n C.1 C.2.1 hd hi hL.has hn rfl (fun lsm2 h2 => hk _ _ _ hK p e s m args below meth c C H locs lsm2 hR hS (LH.set1 h2))
theorem sd_istore {i : Nat} (hn : i < Y.2.2.1) (hd : decode Y.2.1 pc = .ok (.istore i, 2)) (hk : Sd l E Y d mc ms Q cells slots (pc + 2) k) : Sd l E Y d mc ms Q cells slots pc (k_istore i k) := by
  intro ls st h hK p e s m args below meth c C H locs lsm hR hS hL
  obtain ⟨x, r, rfl, hK⟩ := pop1i_inv hK
  have hK := ls1K_inv hK
  exact lv_istore C.1 C.2.1 hd hL.has hn rfl (fun lsm2 h2 => hk _ _ _ hK p e s m args below meth c C H locs lsm2 hR hS (LH.set1 h2))
def k_lstore (n : Nat) (k : Kt) (ls : Lv) (st : List Value) (h : Hp) : Prop := pop1l st fun x r => ls2K ls n (.long x) fun ls2 => k ls2 r h
theorem sd_lstore_n {n : Fin 4} {i : Nat} (hi : (n : Nat) = i) (hn : i + 1 < Y.2.2.1) (hd : decode Y.2.1 pc = .ok (.lstore_n n, 1)) (hk : Sd l E Y d mc ms Q cells slots (pc + 1) k) : Sd l E Y d mc ms Q cells slots pc (k_lstore i k) := by
  intro ls st h hK p e s m args below meth c C H locs lsm hR hS hL
  obtain ⟨x, r, rfl, hK⟩ := pop1l_inv hK
  have hK := ls2K_inv hK
  exact lv_lstore_n C.1 C.2.1 hd hi hL.has hn rfl (fun lsm2 h2 => hk _ _ _ hK p e s m args below meth c C H locs lsm2 hR hS (LH.set2 h2))
theorem sd_lstore {i : Nat} (hn : i + 1 < Y.2.2.1) (hd : decode Y.2.1 pc = .ok (.lstore i, 2)) (hk : Sd l E Y d mc ms Q cells slots (pc + 2) k) : Sd l E Y d mc ms Q cells slots pc (k_lstore i k) := by
  intro ls st h hK p e s m args below meth c C H locs lsm hR hS hL
  obtain ⟨x, r, rfl, hK⟩ := pop1l_inv hK
  have hK := ls2K_inv hK
  exact lv_lstore C.1 C.2.1 hd hL.has hn rfl (fun lsm2 h2 => hk _ _ _ hK p e s m args below meth c C H locs lsm2 hR hS (LH.set2 h2))
def k_astore (n : Nat) (k : Kt) (ls : Lv) (st : List Value) (h : Hp) : Prop := match st with
  | .ref x :: r => ls1K ls n (.ref x) fun ls2 => k ls2 r h
  | .null :: r => ls1K ls n .null fun ls2 => k ls2 r h
  | _ => False
theorem sd_astore_n {n : Fin 4} {i : Nat} (hi : (n : Nat) = i) (hn : i < Y.2.2.1) (hd : decode Y.2.1 pc = .ok (.astore_n n, 1)) (hk : Sd l E Y d mc ms Q cells slots (pc + 1) k) : Sd l E Y d mc ms Q cells slots pc (k_astore i k) := by
  intro ls st h hK p e s m args below meth c C H locs lsm hR hS hL
  unfold k_astore at hK
  split at hK
  · have hK := ls1K_inv hK
    exact lv_astore_n C.1 C.2.1 hd hi hL.has hn rfl (fun lsm2 h2 => hk _ _ _ hK p e s m args below meth c C H locs lsm2 hR hS (LH.set1 (v := .ref _) h2))
  · have hK := ls1K_inv hK
    exact lv_astore_nN C.1 C.2.1 hd hi hL.has hn rfl (fun lsm2 h2 => hk _ _ _ hK p e s m args below meth c C H locs lsm2 hR hS (LH.set1 (v := .null) h2))
  · exact hK.elim
theorem sd_astore {i : Nat} (hn : i < Y.2.2.1) (hd : decode Y.2.1 pc = .ok (.astore i, 2)) (hk : Sd l E Y d mc ms Q cells slots (pc + 2) k) : Sd l E Y d mc ms Q cells slots pc (k_astore i k) := by
  intro ls st h hK p e s m args below meth c C H locs lsm hR hS hL
  unfold k_astore at hK
  split at hK
  · have hK := ls1K_inv hK
    exact lv_astore C.1 C.2.1 hd hL.has hn rfl (fun lsm2 h2 => hk _ _ _ hK p e s m args below meth c C H locs lsm2 hR hS (LH.set1 (v := .ref _) h2))
  · have hK := ls1K_inv hK
    exact lv_astoreN C.1 C.2.1 hd hL.has hn rfl (fun lsm2 h2 => hk _ _ _ hK p e s m args below meth c C H locs lsm2 hR hS (LH.set1 (v := .null) h2))
  · exact hK.elim
def k_iinc (n : Nat) (v : Int32) (k : Kt) (ls : Lv) (st : List Value) (h : Hp) : Prop := lgetK ls n fun w => gvI w fun x => ls1K ls n (.int (x + v)) fun ls2 => k ls2 st h
theorem sd_iinc {i : Nat} {n : Int} {v : Int32} (hv : Int32.ofInt n = v) (hn : i < Y.2.2.1) (hd : decode Y.2.1 pc = .ok (.iinc i n, 3)) (hk : Sd l E Y d mc ms Q cells slots (pc + 3) k) : Sd l E Y d mc ms Q cells slots pc (k_iinc i v k) := by
  intro ls st h hK p e s m args below meth c C H locs lsm hR hS hL
  obtain ⟨w, hx, h2⟩ := lgetK_inv hK
  obtain ⟨x, rfl, h3⟩ := gvI_inv h2
  have hK := ls1K_inv h3
  obtain ⟨j, hj⟩ := List.getElem?_of_mem (lassoc_mem (E := E) hx)
  exact lv_iinc C.1 C.2.1 hd hL.has hj (by rw [hv]) hn rfl (fun lsm2 h2 => hk _ _ _ hK p e s m args below meth c C H locs lsm2 hR hS (LH.set1 (v := .int (x + v)) h2))
def k_iadd (k : Kt) (ls : Lv) (st : List Value) (h : Hp) : Prop := pop2i st fun y x r => k ls (.int (x + y) :: r) h
theorem sd_iadd (hd : decode Y.2.1 pc = .ok (.iadd, 1)) (hk : Sd l E Y d mc ms Q cells slots (pc + 1) k) : Sd l E Y d mc ms Q cells slots pc (k_iadd k) := by
  intro ls st h hK p e s m args below meth c C H locs lsm hR hS hL
  obtain ⟨y, x, r, rfl, hK⟩ := pop2i_inv hK
  exact lv_iadd C.1 C.2.1 hd (hk _ _ _ hK p e s m args below meth c C H locs lsm hR hS hL)
def k_isub (k : Kt) (ls : Lv) (st : List Value) (h : Hp) : Prop := pop2i st fun y x r => k ls (.int (x - y) :: r) h
theorem sd_isub (hd : decode Y.2.1 pc = .ok (.isub, 1)) (hk : Sd l E Y d mc ms Q cells slots (pc + 1) k) : Sd l E Y d mc ms Q cells slots pc (k_isub k) := by
  intro ls st h hK p e s m args below meth c C H locs lsm hR hS hL
  obtain ⟨y, x, r, rfl, hK⟩ := pop2i_inv hK
  exact lv_isub C.1 C.2.1 hd (hk _ _ _ hK p e s m args below meth c C H locs lsm hR hS hL)
def k_imul (k : Kt) (ls : Lv) (st : List Value) (h : Hp) : Prop := pop2i st fun y x r => k ls (.int (x * y) :: r) h
theorem sd_imul (hd : decode Y.2.1 pc = .ok (.imul, 1)) (hk : Sd l E Y d mc ms Q cells slots (pc + 1) k) : Sd l E Y d mc ms Q cells slots pc (k_imul k) := by
  intro ls st h hK p e s m args below meth c C H locs lsm hR hS hL
  obtain ⟨y, x, r, rfl, hK⟩ := pop2i_inv hK
  exact lv_imul C.1 C.2.1 hd (hk _ _ _ hK p e s m args below meth c C H locs lsm hR hS hL)
def k_iand (k : Kt) (ls : Lv) (st : List Value) (h : Hp) : Prop := pop2i st fun y x r => k ls (.int (x &&& y) :: r) h
theorem sd_iand (hd : decode Y.2.1 pc = .ok (.iand, 1)) (hk : Sd l E Y d mc ms Q cells slots (pc + 1) k) : Sd l E Y d mc ms Q cells slots pc (k_iand k) := by
  intro ls st h hK p e s m args below meth c C H locs lsm hR hS hL
  obtain ⟨y, x, r, rfl, hK⟩ := pop2i_inv hK
  exact lv_iand C.1 C.2.1 hd (hk _ _ _ hK p e s m args below meth c C H locs lsm hR hS hL)
def k_ior (k : Kt) (ls : Lv) (st : List Value) (h : Hp) : Prop := pop2i st fun y x r => k ls (.int (x ||| y) :: r) h
theorem sd_ior (hd : decode Y.2.1 pc = .ok (.ior, 1)) (hk : Sd l E Y d mc ms Q cells slots (pc + 1) k) : Sd l E Y d mc ms Q cells slots pc (k_ior k) := by
  intro ls st h hK p e s m args below meth c C H locs lsm hR hS hL
  obtain ⟨y, x, r, rfl, hK⟩ := pop2i_inv hK
  exact lv_ior C.1 C.2.1 hd (hk _ _ _ hK p e s m args below meth c C H locs lsm hR hS hL)
def k_ixor (k : Kt) (ls : Lv) (st : List Value) (h : Hp) : Prop := pop2i st fun y x r => k ls (.int (x ^^^ y) :: r) h
theorem sd_ixor (hd : decode Y.2.1 pc = .ok (.ixor, 1)) (hk : Sd l E Y d mc ms Q cells slots (pc + 1) k) : Sd l E Y d mc ms Q cells slots pc (k_ixor k) := by
  intro ls st h hK p e s m args below meth c C H locs lsm hR hS hL
  obtain ⟨y, x, r, rfl, hK⟩ := pop2i_inv hK
  exact lv_ixor C.1 C.2.1 hd (hk _ _ _ hK p e s m args below meth c C H locs lsm hR hS hL)
def k_ishl (k : Kt) (ls : Lv) (st : List Value) (h : Hp) : Prop := pop2i st fun y x r => k ls (.int (x <<< (y &&& 31)) :: r) h
theorem sd_ishl (hd : decode Y.2.1 pc = .ok (.ishl, 1)) (hk : Sd l E Y d mc ms Q cells slots (pc + 1) k) : Sd l E Y d mc ms Q cells slots pc (k_ishl k) := by
  intro ls st h hK p e s m args below meth c C H locs lsm hR hS hL
  obtain ⟨y, x, r, rfl, hK⟩ := pop2i_inv hK
  exact lv_ishl C.1 C.2.1 hd (hk _ _ _ hK p e s m args below meth c C H locs lsm hR hS hL)
def k_ishr (k : Kt) (ls : Lv) (st : List Value) (h : Hp) : Prop := pop2i st fun y x r => k ls (.int (x >>> (y &&& 31)) :: r) h
theorem sd_ishr (hd : decode Y.2.1 pc = .ok (.ishr, 1)) (hk : Sd l E Y d mc ms Q cells slots (pc + 1) k) : Sd l E Y d mc ms Q cells slots pc (k_ishr k) := by
  intro ls st h hK p e s m args below meth c C H locs lsm hR hS hL
  obtain ⟨y, x, r, rfl, hK⟩ := pop2i_inv hK
  exact lv_ishr C.1 C.2.1 hd (hk _ _ _ hK p e s m args below meth c C H locs lsm hR hS hL)
def k_iushr (k : Kt) (ls : Lv) (st : List Value) (h : Hp) : Prop := pop2i st fun y x r => k ls (.int ((x.toUInt32 >>> (y.toUInt32 &&& Int32.toUInt32 31)).toInt32) :: r) h
theorem sd_iushr (hd : decode Y.2.1 pc = .ok (.iushr, 1)) (hk : Sd l E Y d mc ms Q cells slots (pc + 1) k) : Sd l E Y d mc ms Q cells slots pc (k_iushr k) := by
  intro ls st h hK p e s m args below meth c C H locs lsm hR hS hL
  obtain ⟨y, x, r, rfl, hK⟩ := pop2i_inv hK
  exact lv_iushr C.1 C.2.1 hd rfl (hk _ _ _ hK p e s m args below meth c C H locs lsm hR hS hL)
def k_irem (k : Kt) (ls : Lv) (st : List Value) (h : Hp) : Prop := pop2i st fun y x r => (¬ y = 0) ∧ k ls (.int (x - x / y * y) :: r) h
theorem sd_irem (hd : decode Y.2.1 pc = .ok (.irem, 1)) (hk : Sd l E Y d mc ms Q cells slots (pc + 1) k) : Sd l E Y d mc ms Q cells slots pc (k_irem k) := by
  intro ls st h hK p e s m args below meth c C H locs lsm hR hS hL
  obtain ⟨y, x, r, rfl, hg, hK⟩ := pop2i_inv hK
  exact lv_irem C.1 C.2.1 hd hg (hk _ _ _ hK p e s m args below meth c C H locs lsm hR hS hL)
def k_ladd (k : Kt) (ls : Lv) (st : List Value) (h : Hp) : Prop := pop2l st fun y x r => k ls (.long (x + y) :: r) h
theorem sd_ladd (hd : decode Y.2.1 pc = .ok (.ladd, 1)) (hk : Sd l E Y d mc ms Q cells slots (pc + 1) k) : Sd l E Y d mc ms Q cells slots pc (k_ladd k) := by
  intro ls st h hK p e s m args below meth c C H locs lsm hR hS hL
  obtain ⟨y, x, r, rfl, hK⟩ := pop2l_inv hK
  exact lv_ladd C.1 C.2.1 hd (hk _ _ _ hK p e s m args below meth c C H locs lsm hR hS hL)
def k_lsub (k : Kt) (ls : Lv) (st : List Value) (h : Hp) : Prop := pop2l st fun y x r => k ls (.long (x - y) :: r) h
theorem sd_lsub (hd : decode Y.2.1 pc = .ok (.lsub, 1)) (hk : Sd l E Y d mc ms Q cells slots (pc + 1) k) : Sd l E Y d mc ms Q cells slots pc (k_lsub k) := by
  intro ls st h hK p e s m args below meth c C H locs lsm hR hS hL
  obtain ⟨y, x, r, rfl, hK⟩ := pop2l_inv hK
  exact lv_lsub C.1 C.2.1 hd (hk _ _ _ hK p e s m args below meth c C H locs lsm hR hS hL)
def k_lmul (k : Kt) (ls : Lv) (st : List Value) (h : Hp) : Prop := pop2l st fun y x r => k ls (.long (x * y) :: r) h
theorem sd_lmul (hd : decode Y.2.1 pc = .ok (.lmul, 1)) (hk : Sd l E Y d mc ms Q cells slots (pc + 1) k) : Sd l E Y d mc ms Q cells slots pc (k_lmul k) := by
  intro ls st h hK p e s m args below meth c C H locs lsm hR hS hL
  obtain ⟨y, x, r, rfl, hK⟩ := pop2l_inv hK
  exact lv_lmul C.1 C.2.1 hd (hk _ _ _ hK p e s m args below meth c C H locs lsm hR hS hL)
def k_land (k : Kt) (ls : Lv) (st : List Value) (h : Hp) : Prop := pop2l st fun y x r => k ls (.long (x &&& y) :: r) h
theorem sd_land (hd : decode Y.2.1 pc = .ok (.land, 1)) (hk : Sd l E Y d mc ms Q cells slots (pc + 1) k) : Sd l E Y d mc ms Q cells slots pc (k_land k) := by
  intro ls st h hK p e s m args below meth c C H locs lsm hR hS hL
  obtain ⟨y, x, r, rfl, hK⟩ := pop2l_inv hK
  exact lv_land C.1 C.2.1 hd (hk _ _ _ hK p e s m args below meth c C H locs lsm hR hS hL)
def k_lor (k : Kt) (ls : Lv) (st : List Value) (h : Hp) : Prop := pop2l st fun y x r => k ls (.long (x ||| y) :: r) h
theorem sd_lor (hd : decode Y.2.1 pc = .ok (.lor, 1)) (hk : Sd l E Y d mc ms Q cells slots (pc + 1) k) : Sd l E Y d mc ms Q cells slots pc (k_lor k) := by
  intro ls st h hK p e s m args below meth c C H locs lsm hR hS hL
  obtain ⟨y, x, r, rfl, hK⟩ := pop2l_inv hK
  exact lv_lor C.1 C.2.1 hd (hk _ _ _ hK p e s m args below meth c C H locs lsm hR hS hL)
def k_lxor (k : Kt) (ls : Lv) (st : List Value) (h : Hp) : Prop := pop2l st fun y x r => k ls (.long (x ^^^ y) :: r) h
theorem sd_lxor (hd : decode Y.2.1 pc = .ok (.lxor, 1)) (hk : Sd l E Y d mc ms Q cells slots (pc + 1) k) : Sd l E Y d mc ms Q cells slots pc (k_lxor k) := by
  intro ls st h hK p e s m args below meth c C H locs lsm hR hS hL
  obtain ⟨y, x, r, rfl, hK⟩ := pop2l_inv hK
  exact lv_lxor C.1 C.2.1 hd (hk _ _ _ hK p e s m args below meth c C H locs lsm hR hS hL)
def k_ldiv (k : Kt) (ls : Lv) (st : List Value) (h : Hp) : Prop := pop2l st fun y x r => (¬ y = 0) ∧ k ls (.long (x / y) :: r) h
theorem sd_ldiv (hd : decode Y.2.1 pc = .ok (.ldiv, 1)) (hk : Sd l E Y d mc ms Q cells slots (pc + 1) k) : Sd l E Y d mc ms Q cells slots pc (k_ldiv k) := by
  intro ls st h hK p e s m args below meth c C H locs lsm hR hS hL
  obtain ⟨y, x, r, rfl, hg, hK⟩ := pop2l_inv hK
  exact lv_ldiv C.1 C.2.1 hd hg (hk _ _ _ hK p e s m args below meth c C H locs lsm hR hS hL)
def k_lrem (k : Kt) (ls : Lv) (st : List Value) (h : Hp) : Prop := pop2l st fun y x r => (¬ y = 0) ∧ k ls (.long (x - x / y * y) :: r) h
theorem sd_lrem (hd : decode Y.2.1 pc = .ok (.lrem, 1)) (hk : Sd l E Y d mc ms Q cells slots (pc + 1) k) : Sd l E Y d mc ms Q cells slots pc (k_lrem k) := by
  intro ls st h hK p e s m args below meth c C H locs lsm hR hS hL
  obtain ⟨y, x, r, rfl, hg, hK⟩ := pop2l_inv hK
  exact lv_lrem C.1 C.2.1 hd hg (hk _ _ _ hK p e s m args below meth c C H locs lsm hR hS hL)
def k_lcmp (k : Kt) (ls : Lv) (st : List Value) (h : Hp) : Prop := pop2l st fun y x r => k ls (.int (lg_cmp x y) :: r) h
theorem sd_lcmp (hd : decode Y.2.1 pc = .ok (.lcmp, 1)) (hk : Sd l E Y d mc ms Q cells slots (pc + 1) k) : Sd l E Y d mc ms Q cells slots pc (k_lcmp k) := by
  intro ls st h hK p e s m args below meth c C H locs lsm hR hS hL
  obtain ⟨y, x, r, rfl, hK⟩ := pop2l_inv hK
  exact W.lcmp C.1 C.2.1 hd (hk _ _ _ hK p e s m args below meth c C H locs lsm hR hS hL)
def k_lshl (k : Kt) (ls : Lv) (st : List Value) (h : Hp) : Prop := popil st fun y x r => k ls (.long (x <<< (y.toInt64 &&& 63)) :: r) h
theorem sd_lshl (hd : decode Y.2.1 pc = .ok (.lshl, 1)) (hk : Sd l E Y d mc ms Q cells slots (pc + 1) k) : Sd l E Y d mc ms Q cells slots pc (k_lshl k) := by
  intro ls st h hK p e s m args below meth c C H locs lsm hR hS hL
  obtain ⟨y, x, r, rfl, hK⟩ := popil_inv hK
  exact lv_lshl C.1 C.2.1 hd rfl (hk _ _ _ hK p e s m args below meth c C H locs lsm hR hS hL)
def k_lshr (k : Kt) (ls : Lv) (st : List Value) (h : Hp) : Prop := popil st fun y x r => k ls (.long (x >>> (y.toInt64 &&& 63)) :: r) h
theorem sd_lshr (hd : decode Y.2.1 pc = .ok (.lshr, 1)) (hk : Sd l E Y d mc ms Q cells slots (pc + 1) k) : Sd l E Y d mc ms Q cells slots pc (k_lshr k) := by
  intro ls st h hK p e s m args below meth c C H locs lsm hR hS hL
  obtain ⟨y, x, r, rfl, hK⟩ := popil_inv hK
  exact lv_lshr C.1 C.2.1 hd rfl (hk _ _ _ hK p e s m args below meth c C H locs lsm hR hS hL)
def k_lushr (k : Kt) (ls : Lv) (st : List Value) (h : Hp) : Prop := popil st fun y x r => k ls (.long ((x.toUInt64 >>> (y.toInt64.toUInt64 &&& Int64.toUInt64 63)).toInt64) :: r) h
theorem sd_lushr (hd : decode Y.2.1 pc = .ok (.lushr, 1)) (hk : Sd l E Y d mc ms Q cells slots (pc + 1) k) : Sd l E Y d mc ms Q cells slots pc (k_lushr k) := by
  intro ls st h hK p e s m args below meth c C H locs lsm hR hS hL
  obtain ⟨y, x, r, rfl, hK⟩ := popil_inv hK
  exact lv_lushr C.1 C.2.1 hd rfl (hk _ _ _ hK p e s m args below meth c C H locs lsm hR hS hL)
def k_ineg (k : Kt) (ls : Lv) (st : List Value) (h : Hp) : Prop := pop1i st fun x r => k ls (.int (-x) :: r) h
theorem sd_ineg (hd : decode Y.2.1 pc = .ok (.ineg, 1)) (hk : Sd l E Y d mc ms Q cells slots (pc + 1) k) : Sd l E Y d mc ms Q cells slots pc (k_ineg k) := by
  intro ls st h hK p e s m args below meth c C H locs lsm hR hS hL
  obtain ⟨x, r, rfl, hK⟩ := pop1i_inv hK
  exact lv_ineg C.1 C.2.1 hd (hk _ _ _ hK p e s m args below meth c C H locs lsm hR hS hL)
def k_i2l (k : Kt) (ls : Lv) (st : List Value) (h : Hp) : Prop := pop1i st fun x r => k ls (.long x.toInt64 :: r) h
theorem sd_i2l (hd : decode Y.2.1 pc = .ok (.i2l, 1)) (hk : Sd l E Y d mc ms Q cells slots (pc + 1) k) : Sd l E Y d mc ms Q cells slots pc (k_i2l k) := by
  intro ls st h hK p e s m args below meth c C H locs lsm hR hS hL
  obtain ⟨x, r, rfl, hK⟩ := pop1i_inv hK
  exact lv_i2l C.1 C.2.1 hd rfl (hk _ _ _ hK p e s m args below meth c C H locs lsm hR hS hL)
def k_l2i (k : Kt) (ls : Lv) (st : List Value) (h : Hp) : Prop := pop1l st fun x r => k ls (.int x.toInt32 :: r) h
theorem sd_l2i (hd : decode Y.2.1 pc = .ok (.l2i, 1)) (hk : Sd l E Y d mc ms Q cells slots (pc + 1) k) : Sd l E Y d mc ms Q cells slots pc (k_l2i k) := by
  intro ls st h hK p e s m args below meth c C H locs lsm hR hS hL
  obtain ⟨x, r, rfl, hK⟩ := pop1l_inv hK
  exact lv_l2i C.1 C.2.1 hd rfl (hk _ _ _ hK p e s m args below meth c C H locs lsm hR hS hL)
def k_i2c (k : Kt) (ls : Lv) (st : List Value) (h : Hp) : Prop := pop1i st fun x r => k ls (.int ((x.toUInt32 % 65536).toInt32) :: r) h
theorem sd_i2c (hd : decode Y.2.1 pc = .ok (.i2c, 1)) (hk : Sd l E Y d mc ms Q cells slots (pc + 1) k) : Sd l E Y d mc ms Q cells slots pc (k_i2c k) := by
  intro ls st h hK p e s m args below meth c C H locs lsm hR hS hL
  obtain ⟨x, r, rfl, hK⟩ := pop1i_inv hK
  exact lv_i2c C.1 C.2.1 hd rfl (hk _ _ _ hK p e s m args below meth c C H locs lsm hR hS hL)
def isC1 (v : Value) : Bool := v.category == 1
def k_dup (k : Kt) (ls : Lv) (st : List Value) (h : Hp) : Prop := match st with
  | v :: r => isC1 v = true ∧ k ls (v :: v :: r) h
  | _ => False
theorem isC1_of {v : Value} (E : Ev) (h : isC1 v = true) : (mv E v).category = 1 := by rw [mv_cat]; simpa [isC1] using h
theorem sd_dup (hd : decode Y.2.1 pc = .ok (.dup, 1)) (hk : Sd l E Y d mc ms Q cells slots (pc + 1) k) : Sd l E Y d mc ms Q cells slots pc (k_dup k) := by
  intro ls st h hK p e s m args below meth c C H locs lsm hR hS hL
  unfold k_dup at hK
  split at hK
  · exact lv_dup C.1 C.2.1 hd (isC1_of E hK.1) (hk _ _ _ hK.2 p e s m args below meth c C H locs lsm hR hS hL)
  · exact hK.elim
def k_pop (k : Kt) (ls : Lv) (st : List Value) (h : Hp) : Prop := match st with
  | v :: r => isC1 v = true ∧ k ls r h
  | _ => False
theorem sd_pop (hd : decode Y.2.1 pc = .ok (.pop, 1)) (hk : Sd l E Y d mc ms Q cells slots (pc + 1) k) : Sd l E Y d mc ms Q cells slots pc (k_pop k) := by
  intro ls st h hK p e s m args below meth c C H locs lsm hR hS hL
  unfold k_pop at hK
  split at hK
  · exact lv_pop C.1 C.2.1 hd (isC1_of E hK.1) (hk _ _ _ hK.2 p e s m args below meth c C H locs lsm hR hS hL)
  · exact hK.elim
def k_dup2 (k : Kt) (ls : Lv) (st : List Value) (h : Hp) : Prop := match st with
  | v :: w :: r => isC1 v = true ∧ isC1 w = true ∧ k ls (v :: w :: v :: w :: r) h
  | _ => False
theorem sd_dup2 (hd : decode Y.2.1 pc = .ok (.dup2, 1)) (hk : Sd l E Y d mc ms Q cells slots (pc + 1) k) : Sd l E Y d mc ms Q cells slots pc (k_dup2 k) := by
  intro ls st h hK p e s m args below meth c C H locs lsm hR hS hL
  unfold k_dup2 at hK
  split at hK
  · exact lv_dup2_11 C.1 C.2.1 hd (isC1_of E hK.1) (isC1_of E hK.2.1) (hk _ _ _ hK.2.2 p e s m args below meth c C H locs lsm hR hS hL)
  · exact hK.elim
def k_dup_x1 (k : Kt) (ls : Lv) (st : List Value) (h : Hp) : Prop := match st with
  | v :: w :: r => isC1 v = true ∧ isC1 w = true ∧ k ls (v :: w :: v :: r) h
  | _ => False
theorem sd_dup_x1 (hd : decode Y.2.1 pc = .ok (.dup_x1, 1)) (hk : Sd l E Y d mc ms Q cells slots (pc + 1) k) : Sd l E Y d mc ms Q cells slots pc (k_dup_x1 k) := by
  intro ls st h hK p e s m args below meth c C H locs lsm hR hS hL
  unfold k_dup_x1 at hK
  split at hK
  · exact lv_dup_x1 C.1 C.2.1 hd (isC1_of E hK.1) (isC1_of E hK.2.1) (hk _ _ _ hK.2.2 p e s m args below meth c C H locs lsm hR hS hL)
  · exact hK.elim
def k_if_eq (kt kf : Kt) (ls : Lv) (st : List Value) (h : Hp) : Prop := pop1i st fun x r => (x = 0 → kt ls r h) ∧ (¬ (x = 0) → kf ls r h)
theorem sd_if_eq {off : Int} {tgt : Nat} (ht : (pc : Int) + off = (tgt : Int)) (hd : decode Y.2.1 pc = .ok (.ifCond .eq off, 3)) (hkt : Sd l E Y d mc ms Q cells slots tgt kt) (hkf : Sd l E Y d mc ms Q cells slots (pc + 3) kf) : Sd l E Y d mc ms Q cells slots pc (k_if_eq kt kf) := by
  intro ls st h hK p e s m args below meth c C H locs lsm hR hS hL
  obtain ⟨x, r, rfl, hT, hF⟩ := pop1i_inv hK
  exact lv_if_eq C.1 C.2.1 hd ht (fun q => hkt _ _ _ (hT q) p e s m args below meth c C H locs lsm hR hS hL) (fun q => hkf _ _ _ (hF q) p e s m args below meth c C H locs lsm hR hS hL)
def k_icmp_eq (kt kf : Kt) (ls : Lv) (st : List Value) (h : Hp) : Prop := pop2i st fun y x r => (x = y → kt ls r h) ∧ (¬ (x = y) → kf ls r h)
theorem sd_icmp_eq {off : Int} {tgt : Nat} (ht : (pc : Int) + off = (tgt : Int)) (hd : decode Y.2.1 pc = .ok (.if_icmp .eq off, 3)) (hkt : Sd l E Y d mc ms Q cells slots tgt kt) (hkf : Sd l E Y d mc ms Q cells slots (pc + 3) kf) : Sd l E Y d mc ms Q cells slots pc (k_icmp_eq kt kf) := by
  intro ls st h hK p e s m args below meth c C H locs lsm hR hS hL
  obtain ⟨y, x, r, rfl, hT, hF⟩ := pop2i_inv hK
  exact lv_icmp_eq C.1 C.2.1 hd ht (fun q => hkt _ _ _ (hT q) p e s m args below meth c C H locs lsm hR hS hL) (fun q => hkf _ _ _ (hF q) p e s m args below meth c C H locs lsm hR hS hL)
def k_if_ne (kt kf : Kt) (ls : Lv) (st : List Value) (h : Hp) : Prop := pop1i st fun x r => (¬ x = 0 → kt ls r h) ∧ (x = 0 → kf ls r h)
theorem sd_if_ne {off : Int} {tgt : Nat} (ht : (pc : Int) + off = (tgt : Int)) (hd : decode Y.2.1 pc = .ok (.ifCond .ne off, 3)) (hkt : Sd l E Y d mc ms Q cells slots tgt kt) (hkf : Sd l E Y d mc ms Q cells slots (pc + 3) kf) : Sd l E Y d mc ms Q cells slots pc (k_if_ne kt kf) := by
  intro ls st h hK p e s m args below meth c C H locs lsm hR hS hL
  obtain ⟨x, r, rfl, hT, hF⟩ := pop1i_inv hK
  exact lv_if_ne C.1 C.2.1 hd ht (fun q => hkt _ _ _ (hT q) p e s m args below meth c C H locs lsm hR hS hL) (fun q => hkf _ _ _ (hF q) p e s m args below meth c C H locs lsm hR hS hL)
def k_icmp_ne (kt kf : Kt) (ls : Lv) (st : List Value) (h : Hp) : Prop := pop2i st fun y x r => (¬ x = y → kt ls r h) ∧ (x = y → kf ls r h)
theorem sd_icmp_ne {off : Int} {tgt : Nat} (ht : (pc : Int) + off = (tgt : Int)) (hd : decode Y.2.1 pc = .ok (.if_icmp .ne off, 3)) (hkt : Sd l E Y d mc ms Q cells slots tgt kt) (hkf : Sd l E Y d mc ms Q cells slots (pc + 3) kf) : Sd l E Y d mc ms Q cells slots pc (k_icmp_ne kt kf) := by
  intro ls st h hK p e s m args below meth c C H locs lsm hR hS hL
  obtain ⟨y, x, r, rfl, hT, hF⟩ := pop2i_inv hK
  exact lv_icmp_ne C.1 C.2.1 hd ht (fun q => hkt _ _ _ (hT q) p e s m args below meth c C H locs lsm hR hS hL) (fun q => hkf _ _ _ (hF q) p e s m args below meth c C H locs lsm hR hS hL)
def k_if_lt (kt kf : Kt) (ls : Lv) (st : List Value) (h : Hp) : Prop := pop1i st fun x r => (x < 0 → kt ls r h) ∧ (¬ (x < 0) → kf ls r h)
theorem sd_if_lt {off : Int} {tgt : Nat} (ht : (pc : Int) + off = (tgt : Int)) (hd : decode Y.2.1 pc = .ok (.ifCond .lt off, 3)) (hkt : Sd l E Y d mc ms Q cells slots tgt kt) (hkf : Sd l E Y d mc ms Q cells slots (pc + 3) kf) : Sd l E Y d mc ms Q cells slots pc (k_if_lt kt kf) := by
  intro ls st h hK p e s m args below meth c C H locs lsm hR hS hL
  obtain ⟨x, r, rfl, hT, hF⟩ := pop1i_inv hK
  exact lv_if_lt C.1 C.2.1 hd ht (fun q => hkt _ _ _ (hT q) p e s m args below meth c C H locs lsm hR hS hL) (fun q => hkf _ _ _ (hF q) p e s m args below meth c C H locs lsm hR hS hL)
def k_icmp_lt (kt kf : Kt) (ls : Lv) (st : List Value) (h : Hp) : Prop := pop2i st fun y x r => (x < y → kt ls r h) ∧ (¬ (x < y) → kf ls r h)
theorem sd_icmp_lt {off : Int} {tgt : Nat} (ht : (pc : Int) + off = (tgt : Int)) (hd : decode Y.2.1 pc = .ok (.if_icmp .lt off, 3)) (hkt : Sd l E Y d mc ms Q cells slots tgt kt) (hkf : Sd l E Y d mc ms Q cells slots (pc + 3) kf) : Sd l E Y d mc ms Q cells slots pc (k_icmp_lt kt kf) := by
  intro ls st h hK p e s m args below meth c C H locs lsm hR hS hL
  obtain ⟨y, x, r, rfl, hT, hF⟩ := pop2i_inv hK
  exact lv_icmp_lt C.1 C.2.1 hd ht (fun q => hkt _ _ _ (hT q) p e s m args below meth c C H locs lsm hR hS hL) (fun q => hkf _ _ _ (hF q) p e s m args below meth c C H locs lsm hR hS hL)
def k_if_ge (kt kf : Kt) (ls : Lv) (st : List Value) (h : Hp) : Prop := pop1i st fun x r => (0 ≤ x → kt ls r h) ∧ (¬ (0 ≤ x) → kf ls r h)
theorem sd_if_ge {off : Int} {tgt : Nat} (ht : (pc : Int) + off = (tgt : Int)) (hd : decode Y.2.1 pc = .ok (.ifCond .ge off, 3)) (hkt : Sd l E Y d mc ms Q cells slots tgt kt) (hkf : Sd l E Y d mc ms Q cells slots (pc + 3) kf) : Sd l E Y d mc ms Q cells slots pc (k_if_ge kt kf) := by
  intro ls st h hK p e s m args below meth c C H locs lsm hR hS hL
  obtain ⟨x, r, rfl, hT, hF⟩ := pop1i_inv hK
  exact lv_if_ge C.1 C.2.1 hd ht (fun q => hkt _ _ _ (hT q) p e s m args below meth c C H locs lsm hR hS hL) (fun q => hkf _ _ _ (hF q) p e s m args below meth c C H locs lsm hR hS hL)
def k_icmp_ge (kt kf : Kt) (ls : Lv) (st : List Value) (h : Hp) : Prop := pop2i st fun y x r => (y ≤ x → kt ls r h) ∧ (¬ (y ≤ x) → kf ls r h)
theorem sd_icmp_ge {off : Int} {tgt : Nat} (ht : (pc : Int) + off = (tgt : Int)) (hd : decode Y.2.1 pc = .ok (.if_icmp .ge off, 3)) (hkt : Sd l E Y d mc ms Q cells slots tgt kt) (hkf : Sd l E Y d mc ms Q cells slots (pc + 3) kf) : Sd l E Y d mc ms Q cells slots pc (k_icmp_ge kt kf) := by
  intro ls st h hK p e s m args below meth c C H locs lsm hR hS hL
  obtain ⟨y, x, r, rfl, hT, hF⟩ := pop2i_inv hK
  exact lv_icmp_ge C.1 C.2.1 hd ht (fun q => hkt _ _ _ (hT q) p e s m args below meth c C H locs lsm hR hS hL) (fun q => hkf _ _ _ (hF q) p e s m args below meth c C H locs lsm hR hS hL)
def k_if_gt (kt kf : Kt) (ls : Lv) (st : List Value) (h : Hp) : Prop := pop1i st fun x r => (0 < x → kt ls r h) ∧ (¬ (0 < x) → kf ls r h)
theorem sd_if_gt {off : Int} {tgt : Nat} (ht : (pc : Int) + off = (tgt : Int)) (hd : decode Y.2.1 pc = .ok (.ifCond .gt off, 3)) (hkt : Sd l E Y d mc ms Q cells slots tgt kt) (hkf : Sd l E Y d mc ms Q cells slots (pc + 3) kf) : Sd l E Y d mc ms Q cells slots pc (k_if_gt kt kf) := by
  intro ls st h hK p e s m args below meth c C H locs lsm hR hS hL
  obtain ⟨x, r, rfl, hT, hF⟩ := pop1i_inv hK
  exact lv_if_gt C.1 C.2.1 hd ht (fun q => hkt _ _ _ (hT q) p e s m args below meth c C H locs lsm hR hS hL) (fun q => hkf _ _ _ (hF q) p e s m args below meth c C H locs lsm hR hS hL)
def k_icmp_gt (kt kf : Kt) (ls : Lv) (st : List Value) (h : Hp) : Prop := pop2i st fun y x r => (y < x → kt ls r h) ∧ (¬ (y < x) → kf ls r h)
theorem sd_icmp_gt {off : Int} {tgt : Nat} (ht : (pc : Int) + off = (tgt : Int)) (hd : decode Y.2.1 pc = .ok (.if_icmp .gt off, 3)) (hkt : Sd l E Y d mc ms Q cells slots tgt kt) (hkf : Sd l E Y d mc ms Q cells slots (pc + 3) kf) : Sd l E Y d mc ms Q cells slots pc (k_icmp_gt kt kf) := by
  intro ls st h hK p e s m args below meth c C H locs lsm hR hS hL
  obtain ⟨y, x, r, rfl, hT, hF⟩ := pop2i_inv hK
  exact lv_icmp_gt C.1 C.2.1 hd ht (fun q => hkt _ _ _ (hT q) p e s m args below meth c C H locs lsm hR hS hL) (fun q => hkf _ _ _ (hF q) p e s m args below meth c C H locs lsm hR hS hL)
def k_if_le (kt kf : Kt) (ls : Lv) (st : List Value) (h : Hp) : Prop := pop1i st fun x r => (x ≤ 0 → kt ls r h) ∧ (¬ (x ≤ 0) → kf ls r h)
theorem sd_if_le {off : Int} {tgt : Nat} (ht : (pc : Int) + off = (tgt : Int)) (hd : decode Y.2.1 pc = .ok (.ifCond .le off, 3)) (hkt : Sd l E Y d mc ms Q cells slots tgt kt) (hkf : Sd l E Y d mc ms Q cells slots (pc + 3) kf) : Sd l E Y d mc ms Q cells slots pc (k_if_le kt kf) := by
  intro ls st h hK p e s m args below meth c C H locs lsm hR hS hL
  obtain ⟨x, r, rfl, hT, hF⟩ := pop1i_inv hK
  exact lv_if_le C.1 C.2.1 hd ht (fun q => hkt _ _ _ (hT q) p e s m args below meth c C H locs lsm hR hS hL) (fun q => hkf _ _ _ (hF q) p e s m args below meth c C H locs lsm hR hS hL)
def k_icmp_le (kt kf : Kt) (ls : Lv) (st : List Value) (h : Hp) : Prop := pop2i st fun y x r => (x ≤ y → kt ls r h) ∧ (¬ (x ≤ y) → kf ls r h)
theorem sd_icmp_le {off : Int} {tgt : Nat} (ht : (pc : Int) + off = (tgt : Int)) (hd : decode Y.2.1 pc = .ok (.if_icmp .le off, 3)) (hkt : Sd l E Y d mc ms Q cells slots tgt kt) (hkf : Sd l E Y d mc ms Q cells slots (pc + 3) kf) : Sd l E Y d mc ms Q cells slots pc (k_icmp_le kt kf) := by
  intro ls st h hK p e s m args below meth c C H locs lsm hR hS hL
  obtain ⟨y, x, r, rfl, hT, hF⟩ := pop2i_inv hK
  exact lv_icmp_le C.1 C.2.1 hd ht (fun q => hkt _ _ _ (hT q) p e s m args below meth c C H locs lsm hR hS hL) (fun q => hkf _ _ _ (hF q) p e s m args below meth c C H locs lsm hR hS hL)
def k_ifnonnull (kt kf : Kt) (ls : Lv) (st : List Value) (h : Hp) : Prop := match st with
  | .ref _ :: r => kt ls r h
  | .null :: r => kf ls r h
  | _ => False
theorem sd_ifnonnull {off : Int} {tgt : Nat} (ht : (pc : Int) + off = (tgt : Int)) (hd : decode Y.2.1 pc = .ok (.ifnonnull off, 3)) (hkt : Sd l E Y d mc ms Q cells slots tgt kt) (hkf : Sd l E Y d mc ms Q cells slots (pc + 3) kf) : Sd l E Y d mc ms Q cells slots pc (k_ifnonnull kt kf) := by
  intro ls st h hK p e s m args below meth c C H locs lsm hR hS hL
  unfold k_ifnonnull at hK
  split at hK
  · exact lv_ifnonnull C.1 C.2.1 hd ht (hkt _ _ _ hK p e s m args below meth c C H locs lsm hR hS hL)
  · exact lv_ifnonnullN C.1 C.2.1 hd (hkf _ _ _ hK p e s m args below meth c C H locs lsm hR hS hL)
  · exact hK.elim
theorem sd_goto {off : Int} {tgt : Nat} (ht : (pc : Int) + off = (tgt : Int)) (hd : decode Y.2.1 pc = .ok (.goto off, 3)) (hk : Sd l E Y d mc ms Q cells slots tgt k) : Sd l E Y d mc ms Q cells slots pc k := by
  intro ls st h hK p e s m args below meth c C H locs lsm hR hS hL
  exact lv_goto C.1 C.2.1 hd ht (hk _ _ _ hK p e s m args below meth c C H locs lsm hR hS hL)
def swK (cs : List (Int32 × Kt)) (dk : Kt) (x : Int32) (ls : Lv) (r : List Value) (h : Hp) : Prop := match cs with
  | [] => dk ls r h
  | (c, k) :: t => (x = c → k ls r h) ∧ (¬ x = c → swK t dk x ls r h)
def k_sw (cs : List (Int32 × Kt)) (dk : Kt) (ls : Lv) (st : List Value) (h : Hp) : Prop := pop1i st fun x r => swK cs dk x ls r h
theorem swK_get {cs : List (Int32 × Kt)} {dk : Kt} {x : Int32} {ls : Lv} {r : List Value} {h : Hp} (hK : swK cs dk x ls r h) : (∃ (i : Nat) (c : Int32) (kk : Kt), cs[i]? = some (c, kk) ∧ x = c ∧ kk ls r h) ∨ ((∀ (i : Nat) (c : Int32) (kk : Kt), cs[i]? = some (c, kk) → ¬ x = c) ∧ dk ls r h) := by
  induction cs with
  | nil => right; exact ⟨fun i c kk hi => by simp at hi, hK⟩
  | cons q t ih =>
    obtain ⟨c, kk⟩ := q
    obtain ⟨h1, h2⟩ := hK
    by_cases e : x = c
    · left; exact ⟨0, c, kk, rfl, e, h1 e⟩
    · rcases ih (h2 e) with ⟨i, c', k', a, b, b2⟩ | ⟨a, b⟩
      · left; exact ⟨i + 1, c', k', by simpa using a, b, b2⟩
      · right
        refine ⟨fun i c' k' hi => ?_, b⟩
        cases i with
        | zero => simp at hi; obtain ⟨rfl, -⟩ := hi; exact e
        | succ i => exact a i c' k' (by simpa using hi)
/-- a table switch: offs are the offsets from lo on; tg i is where the i-th goes, kk i what is asked there -/
theorem sd_table {dflt lo hi : Int} {offs : Array Int} {len dt : Nat} {cs : List (Int32 × Kt)} {dk : Kt} (hd : decode Y.2.1 pc = .ok (.tableswitch dflt lo hi offs, len)) (hdt : (pc : Int) + dflt = (dt : Int)) (hdk : Sd l E Y d mc ms Q cells slots dt dk)
    (hlen : (cs.length : Int) = hi - lo + 1) (hcs : ∀ (i : Nat) (q : Int32 × Kt), cs[i]? = some q → q.1.toInt = lo + (i : Int) ∧ ∃ (off : Int) (tgt : Nat), offs[i]? = some off ∧ (pc : Int) + off = (tgt : Int) ∧ Sd l E Y d mc ms Q cells slots tgt q.2) : Sd l E Y d mc ms Q cells slots pc (k_sw cs dk) := by
  intro ls st h hK p e s m args below meth c C H locs lsm hR hS hL
  obtain ⟨x, r, rfl, hK⟩ := pop1i_inv hK
  rcases swK_get hK with ⟨i, c', kk, a, rfl, b⟩ | ⟨a, b⟩
  · obtain ⟨e1, off, tgt, e2, e3, e4⟩ := hcs i _ a
    have hi : i < cs.length := (List.getElem?_eq_some_iff.mp a).1
    dsimp only at e1 e4
    refine lv_tableIn C.1 C.2.1 hd (by omega) (by omega) (off := off) ?_ e3 (e4 _ _ _ b p e s m args below meth c C H locs lsm hR hS hL)
    rw [show (x.toInt - lo).toNat = i by omega]; exact e2
  · refine lv_tableOut C.1 C.2.1 hd ?_ hdt (hdk _ _ _ b p e s m args below meth c C H locs lsm hR hS hL)
    rcases Int.lt_or_le x.toInt lo with q | q
    · exact Or.inl q
    · right
      rcases Int.lt_or_le hi x.toInt with q2 | q2
      · exact q2
      · exfalso
        have hi2 : (x.toInt - lo).toNat < cs.length := by omega
        have hg := List.getElem?_eq_getElem hi2
        obtain ⟨e1, -⟩ := hcs _ _ hg
        exact a _ _ _ hg (Int32.toInt_inj.mp (Eq.trans (by omega) e1.symm))
def k_iret (ty : FieldType) (Q : Option Value → Hp → Prop) (_ : Lv) (st : List Value) (h : Hp) : Prop := pop1i st fun v r => r = [] ∧ rok ty v ∧ Q (some (.int v)) h
theorem va_Sf {A : Nat → Prop} {H0 H : Heap} {locs : List Loc} (h : va_S A H0 H locs) : ∀ q ∈ locs, A q.base := h.2.2
theorem qcp {s t : State} {args : Array Value} {H : Heap} {locs : List Loc} {r : Option Value} {h : Hp} (hQ : Q r h) (hR : Rep E s h H) (hS : va_S (frE E) s.heap H locs) (ht : t.heap = H) (hW : s.WarmedH t.vm) : QcP E Q args s (.returned (r.map (mv E))) t :=
  ⟨⟨r, h, hQ, rfl, by rw [ht]; exact hR.moved hW.alike⟩, hS.F ht⟩
theorem sd_iret {ty : FieldType} (hty : Y.2.2.2 = some ty) (hc : cells ≤ mc) (hs : slots ≤ ms) (hd : decode Y.2.1 pc = .ok (.ireturn, 1)) : Sd l E Y d mc ms Q cells slots pc (k_iret ty Q) := by
  intro ls st h hK p e s m args below meth c C H locs lsm hR hS hL
  obtain ⟨v, r, rfl, rfl, hn, hK⟩ := pop1i_inv hK
  refine W.widen hc hs ?_
  exact W.zret C.1 C.2.1 (C.2.2.1.trans hty) (rok_n hn) (fun t ht hW => qcp (r := some (.int v)) hK hR hS ht hW) (va_Sf hS) hd C.2.2.2.2.2.2.1
def k_lret (Q : Option Value → Hp → Prop) (_ : Lv) (st : List Value) (h : Hp) : Prop := pop1l st fun v r => r = [] ∧ Q (some (.long v)) h
theorem sd_lret (hty : Y.2.2.2 = some .long) (hc : cells ≤ mc) (hs : slots ≤ ms) (hd : decode Y.2.1 pc = .ok (.lreturn, 1)) : Sd l E Y d mc ms Q cells slots pc (k_lret Q) := by
  intro ls st h hK p e s m args below meth c C H locs lsm hR hS hL
  obtain ⟨v, r, rfl, rfl, hK2⟩ := pop1l_inv hK
  refine W.widen hc hs ?_
  exact W.lret C.1 C.2.1 (C.2.2.1.trans hty) (fun t ht hW => qcp (r := some (.long v)) hK2 hR hS ht hW) (va_Sf hS) hd C.2.2.2.2.2.2.1
def k_vret (Q : Option Value → Hp → Prop) (_ : Lv) (st : List Value) (h : Hp) : Prop := match st with
  | [] => Q none h
  | _ => False
theorem sd_vret (hty : Y.2.2.2 = none) (hc : cells ≤ mc) (hs : slots ≤ ms) (hd : decode Y.2.1 pc = .ok (.return_, 1)) : Sd l E Y d mc ms Q cells slots pc (k_vret Q) := by
  intro ls st h hK p e s m args below meth c C H locs lsm hR hS hL
  unfold k_vret at hK
  split at hK
  · refine W.widen hc hs ?_
    exact W.vret C.1 C.2.1 (C.2.2.1.trans hty) (fun t ht hW => qcp (r := none) hK hR hS ht hW) (va_Sf hS) hd C.2.2.2.2.2.2.1
  · exact hK.elim
def k_aret (Q : Option Value → Hp → Prop) (_ : Lv) (st : List Value) (h : Hp) : Prop := match st with
  | [.ref v] => Q (some (.ref v)) h
  | [.null] => Q (some .null) h
  | _ => False
theorem sd_aret {rt : FieldType} (hty : Y.2.2.2 = some rt) (hrt : (∃ n, rt = .object n) ∨ ∃ t, rt = .array t) (hc : cells ≤ mc) (hs : slots ≤ ms) (hd : decode Y.2.1 pc = .ok (.areturn, 1)) : Sd l E Y d mc ms Q cells slots pc (k_aret Q) := by
  intro ls st h hK p e s m args below meth c C H locs lsm hR hS hL
  unfold k_aret at hK
  split at hK
  · rename_i v
    refine W.widen hc hs ?_
    exact W.aret C.1 C.2.1 (C.2.2.1.trans hty) hrt (Or.inr ⟨_, rfl⟩) (fun t ht hW => qcp (r := some (.ref v)) hK hR hS ht hW) (va_Sf hS) hd C.2.2.2.2.2.2.1
  · refine W.widen hc hs ?_
    exact W.aret C.1 C.2.1 (C.2.2.1.trans hty) hrt (Or.inl rfl) (fun t ht hW => qcp (r := some .null) hK hR hS ht hW) (va_Sf hS) hd C.2.2.2.2.2.2.1
  · exact hK.elim
end SD
