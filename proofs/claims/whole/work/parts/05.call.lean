section CALL
variable {l : Launch} {E : Ev} {Y Y' : My} {d d' mc ms mc' ms' cells slots pc : Nat} {Q : Option Value → Hp → Prop} {k kt kf : Kt}
def okT (ty : FieldType) : Bool := match ty with
  | .int => true
  | .long => true
  | .boolean => true
  | .object _ => true
  | .array _ => true
  | _ => false
theorem okT_def {ty : FieldType} (h : okT ty = true) : defaultValue ty = fv E ty 0 0 none := by
  cases ty <;> simp [okT] at h <;> rfl
theorem Rep.frE {s : State} {h : Hp} {H : Heap} (rp : Rep E s h H) : frE E H.size := by show E.1 ≤ _; rw [rp.2.1]; omega
theorem ad_new {s : State} {h : Hp} {H : Heap} (rp : Rep E s h H) : ad E (hN h) = H.size := by rw [ad_own rp.1, rp.2.1]
def k_new (ci N : Nat) (k : Kt) (ls : Lv) (st : List Value) (h : Hp) : Prop := k ls (.ref (hN h) :: st) (nw h (10 + ci) N)
theorem va_S.new {A : Nat → Prop} {H0 H H1 : Heap} {locs : List Loc} (h : va_S A H0 H locs) (z : H1.size = H.size + 1) (oq : ∀ q : Nat, q < H.size → H1[q]? = H[q]?) : va_S A H0 H1 locs :=
  ⟨Nat.le_trans h.1 (by omega), fun x h1 h2 => (oq x (Nat.lt_of_lt_of_le h1 h.1)).trans (h.2.1 x h1 h2), h.2.2⟩
theorem sd_new {ci N i : Nat} {Cn : String} {T : u_T} (hc : Cls ci Cn T N) (hok : ∀ j, j < N → okT (tyF ci j) = true) (m1 : Cond.classLink Y.1.cls i Cn ∈ lw_tbl) (m2 : Cond.instantiable Cn N ∈ lw_tbl) (m3 : Cond.initialized Cn ∈ lw_tbl) (hcell : cells + 1 ≤ mc) (hslot : slots + N ≤ ms) (hd : decode Y.2.1 pc = .ok (.new i, 3)) (hk : Sd l E Y d mc ms Q (cells + 1) (slots + N) (pc + 3) k) : Sd l E Y d mc ms Q cells slots pc (k_new ci N k) := by
  intro ls st h hK p e s m args below meth c C H locs lsm rp sv hL
  have ek := C.2.2.2.2.2.2.2.1
  have hKn := ek.1.1 ci _ hc.1
  refine W.newcK C.1 C.2.1 C.2.2.2.2.1 (C.w m1 rfl) (C.w m2 rfl) (C.w m3 rfl) rfl hd hcell hslot hKn.2.1 rfl fun H1 kC hkC e1 z1 o1 => ?_
  have w := hk _ _ _ hK p e s m args below meth c C H1 locs lsm (rp.new ek.2.1 z1 o1 ?_) (sv.new z1 o1) hL
  · rw [List.map_cons] at w
    show W _ _ _ _ _ _ _ _ _ _ _ _ _ _ _ (F0 m (pc + 3) lsm (.ref H.size :: st.map (mv E)))
    rw [← ad_new rp]
    exact w
  · rw [cell_obj (c := ci) (n := N) (by rw [hS_nw, if_pos rfl])]
    refine ⟨_, hc.1, (u_born (tyF ci) C.2.2.2.2.2.1 (ux_in hc.2.1) hKn hkC (by rw [ad_new rp]; exact e1) hc.2.2.1).to fun j hj => ?_⟩
    rw [okT_def (E := E) (hok j hj)]
    show _ = vp_V (fvs E _ _ _ _) j
    simp [vp_V, fvs, hI_nw, hJ_nw, hR_nw, hj]
def k_newarr (ki B : Nat) (k : Kt) (ls : Lv) (st : List Value) (h : Hp) : Prop := pop1i st fun n r => ¬ n < 0 ∧ n.toNatClampNeg ≤ B ∧ k ls (.ref (hN h) :: r) (nw h ki n.toNatClampNeg)
theorem sd_newarr {ki B : Nat} {at' : ArrayType} (hki : (ki = 1 ∧ at' = .int) ∨ (ki = 2 ∧ at' = .long) ∨ (ki = 3 ∧ at' = .boolean)) (m1 : Cond.arrayClass (newarray.typeOf at') ∈ lw_tbl) (hB : B ≤ 67108864) (hcell : cells + 1 ≤ mc) (hslot : slots + B ≤ ms) (hd : decode Y.2.1 pc = .ok (.newarray at', 2)) (hk : Sd l E Y d mc ms Q (cells + 1) (slots + B) (pc + 2) k) : Sd l E Y d mc ms Q cells slots pc (k_newarr ki B k) := by
  intro ls st h hK p e s m args below meth c C H locs lsm rp sv hL
  obtain ⟨n, r, rfl, hn, hnB, hK⟩ := pop1i_inv hK
  have ek := C.2.2.2.2.2.2.2.1
  have hb8 : componentBytes (newarray.typeOf at') ≤ 8 := by rcases hki with ⟨-, rfl⟩ | ⟨-, rfl⟩ | ⟨-, rfl⟩ <;> decide
  refine va_newaK C.1 C.2.1 (C.w m1 rfl) rfl hd rfl hn rfl (Nat.le_trans (Nat.mul_le_mul hnB hb8) (by omega)) hcell (by show slots + _ ≤ ms; omega) rfl fun H1 cA e1 z1 o1 hAr hNm => ?_
  refine W.widen (Nat.le_refl _) (Nat.add_le_add_left hnB slots) ?_
  have w := hk _ _ _ hK p e s m args below meth c C H1 locs lsm (rp.new ek.2.1 z1 o1 ?_) (sv.new z1 o1) hL
  · rw [List.map_cons] at w
    show W _ _ _ _ _ _ _ _ _ _ _ _ _ _ _ (F0 m (pc + 2) lsm (.ref H.size :: r.map (mv E)))
    rw [← ad_new rp]
    exact w
  · rcases hki with ⟨rfl, rfl⟩ | ⟨rfl, rfl⟩ | ⟨rfl, rfl⟩
    · have hcA : cA = E.2.2.2 1 := Option.some.inj (hNm.symm.trans (ek.1.2 0 _ rfl).2)
      subst hcA
      rw [cell_1 (n := n.toNatClampNeg) (by rw [hS_nw, if_pos rfl]), ad_new rp]
      show H1[H.size]? = some (vp_cell _ _)
      rw [vp_cell_i, e1, hI_nw, if_pos rfl]
      rfl
    · have hcA : cA = E.2.2.2 2 := Option.some.inj (hNm.symm.trans (ek.1.2 1 _ rfl).2)
      subst hcA
      rw [cell_2 (n := n.toNatClampNeg) (by rw [hS_nw, if_pos rfl]), ad_new rp]
      show H1[H.size]? = some (vp_cell _ _)
      rw [vp_cell_l, e1, hJ_nw, if_pos rfl]
      rfl
    · have hcA : cA = E.2.2.2 3 := Option.some.inj (hNm.symm.trans (ek.1.2 2 _ rfl).2)
      subst hcA
      rw [cell_3 (n := n.toNatClampNeg) (by rw [hS_nw, if_pos rfl]), ad_new rp]
      show H1[H.size]? = some (vp_cell _ _)
      rw [vp_cell_i, e1, hI_nw, if_pos rfl]
      rfl
def k_anew (ki B : Nat) (k : Kt) (ls : Lv) (st : List Value) (h : Hp) : Prop := pop1i st fun n r => ¬ n < 0 ∧ n.toNatClampNeg ≤ B ∧ k ls (.ref (hN h) :: r) (nw h ki n.toNatClampNeg)
theorem sd_anew {ki B i : Nat} {Cn : String} (hki : (ki = 4 ∧ Cn = "IllTonight$Law") ∨ (ki = 5 ∧ Cn = "IllTonight$State")) (m1 : Cond.classLink Y.1.cls i Cn ∈ lw_tbl) (hB : B ≤ 67108864) (hcell : cells + 1 ≤ mc) (hslot : slots + B ≤ ms) (hd : decode Y.2.1 pc = .ok (.anewarray i, 3)) (hk : Sd l E Y d mc ms Q (cells + 1) (slots + B) (pc + 3) k) : Sd l E Y d mc ms Q cells slots pc (k_anew ki B k) := by
  intro ls st h hK p e s m args below meth c C H locs lsm rp sv hL
  obtain ⟨n, r, rfl, hn, hnB, hK⟩ := pop1i_inv hK
  have ek := C.2.2.2.2.2.2.2.1
  have hao : va_AO Cn s := by
    rcases hki with ⟨-, rfl⟩ | ⟨-, rfl⟩
    · exact ek.2.2.2.1
    · exact ek.2.2.2.2.1
  refine W.anew C.1 C.2.1 C.2.2.2.2.1 (C.w m1 rfl) hao.use rfl hd rfl hn (by omega) hcell (by show slots + _ ≤ ms; omega) fun cA kA comp f1 f2 f3 f4 => ?_
  generalize hH1 : H.push ({ cls := cA, slots := Array.replicate n.toNatClampNeg .null, vm := .none } : Cell) = H1
  have z1 : H1.size = H.size + 1 := by rw [← hH1, Array.size_push]
  have e1 : H1[H.size]? = some (arrV cA n.toNatClampNeg (fun _ => .null)) := by rw [← hH1, Array.getElem?_push_size, ← arrV_new]
  have o1 : ∀ q : Nat, q < H.size → H1[q]? = H[q]? := fun q hq => by rw [← hH1, Array.getElem?_push, if_neg (Nat.ne_of_lt hq)]
  refine W.widen (Nat.le_refl _) (Nat.add_le_add_left hnB slots) ?_
  have w := hk _ _ _ hK p e s m args below meth c C H1 locs lsm (rp.new ek.2.1 z1 o1 ?_) (sv.new z1 o1) hL
  · rw [List.map_cons] at w
    show W _ _ _ _ _ _ _ _ _ _ _ _ _ _ _ (F0 m (pc + 3) lsm (.ref H.size :: r.map (mv E)))
    rw [← ad_new rp]
    exact w
  · rcases hki with ⟨rfl, rfl⟩ | ⟨rfl, rfl⟩
    · obtain ⟨_, _, -, -, -, g4⟩ := (ek.1.2 3 _ rfl).2
      have hcA : cA = E.2.2.2 4 := Option.some.inj (f1.symm.trans g4)
      subst hcA
      rw [cell_4 (n := n.toNatClampNeg) (by rw [hS_nw, if_pos rfl]), ad_new rp]
      show H1[H.size]? = some (vp_cell _ _)
      rw [vp_cell_q, e1, hR_nw, if_pos rfl]
      rfl
    · obtain ⟨_, _, -, -, -, g4⟩ := (ek.1.2 4 _ rfl).2
      have hcA : cA = E.2.2.2 5 := Option.some.inj (f1.symm.trans g4)
      subst hcA
      rw [cell_5 (n := n.toNatClampNeg) (by rw [hS_nw, if_pos rfl]), ad_new rp]
      show H1[H.size]? = some (vp_cell _ _)
      rw [vp_cell_q, e1, hR_nw, if_pos rfl]
      rfl
/-! calls -/
theorem catS_mv (st : List Value) : ((st.map (mv E)).map fun v => v.category).sum = catS st := by
  induction st with
  | nil => rfl
  | cons v t ih =>
    rw [List.map_cons, List.map_cons, List.sum_cons, ih, mv_cat]
    rfl
theorem pc_blind {av : List Value} {h : Hp} : FrameBlind (va_Pc (av.map (mv E)) (fun U => Rep E U h U.heap ∧ EK E U)) := fun a U g mk q =>
  ⟨q.1, (show Rep E (U.calling g mk a) h U.heap from q.2.1.moved (Vm.Alike.refl U.vm)), q.2.2.same (u := U) (U := U.calling g mk a) rfl⟩
theorem fin_call {p : Program} {e : Env} {R : Room} {s : State} {m : MethodId} {args : Array Value} {below : List Frame} {meth : Method} {c : Code} {H : Heap} {locs : List Loc} {lsm : Array Slot} {Q0 : State → Prop} {Q' : Option Value → Hp → Prop} {rest st0 : List Value} {a : Array Value}
    (hr : va_Run p l e R s m args below meth c H locs cells slots mc' ms' (F0 m pc lsm st0) (rest.map (mv E)) (QcP E Q' a) (frE E)) (sv : va_S (frE E) s.heap H locs)
    (kk : ∀ (r : Option Value) (h' : Hp) (H1 : Heap) (locs1 : List Loc), Q' r h' → Rep E s h' H1 → va_S (frE E) s.heap H1 locs1 → W p l e R s m args below meth c H1 locs1 (cells + mc') (slots + ms') Q0 (F0 m (pc + 3) lsm ((r.toList ++ rest).map (mv E)))) :
    W p l e R s m args below meth c H locs cells slots Q0 (F0 m pc lsm st0) := by
  intro T hT X
  obtain ⟨v, st₀, t, T', L, h0, X', hL, e1, e2, ⟨⟨r, h', hQ, ho, hR'⟩, hz, hk⟩, st⟩ := hr T hT X
  cases ho
  rw [h0] at hz hk
  obtain ⟨t2, a1, b1⟩ := kk r h' T'.heap (locs ++ L) hQ (by rw [e1]; exact hR'.moved (by rw [← e2]; exact X'.warmed.alike.symm))
    ⟨Nat.le_trans sv.1 (by rw [e1]; exact hz), fun q h1 h2 => by rw [e1, hk q (Nat.lt_of_lt_of_le h1 sv.1) h2]; exact sv.2.1 q h1 h2, fun q hq => by
      rcases List.mem_append.mp hq with h | h
      · exact sv.2.2 q h
      · exact hL q h⟩ T' rfl X'
  refine ⟨t2, st t2 ?_, b1⟩
  cases r <;> exact a1
theorem good_in (m5 : Cond.code Y'.1 Y'.2.1 Y'.2.2.1 Y'.2.2.2 ∈ lw_tbl) : GoodIn gTbl (wsM Y') := by
  intro w hw
  rcases List.mem_cons.mp hw with rfl | h
  · exact ⟨gTbl_in m5 rfl, good_of_word rfl⟩
  · exact ⟨h, good_of_word (List.mem_filter.mp h).2⟩
def okM (Y' : My) (n : Nat) : Prop := Y'.1.cls ≠ "java/lang/invoke/MethodHandle" ∧ Y'.1.cls ≠ "java/lang/invoke/VarHandle" ∧ (parseMethodDescriptor Y'.1.desc).map (fun d => d.parameters.length) = some n
theorem rm_ok (hdd : d' + 1 ≤ d) (hm : Y'.2.2.1 ≤ 40) : (rmD d' mc' ms').frames + 1 ≤ (rmD d mc ms).frames ∧ 8 + (Y'.2.2.1 + 11) + (rmD d' mc' ms').locals ≤ (rmD d mc ms).locals := ⟨hdd, by show 8 + (Y'.2.2.1 + 11) + 64 * d' ≤ 64 * d; omega⟩
theorem take_drop_map {st rest : List Value} {n : Nat} {b : Nat} (h : st.drop n = .ref b :: rest) : st.map (mv E) = (((st.take n).reverse).map (mv E)).reverse ++ .ref (ad E b) :: rest.map (mv E) ∧ (((st.take n).reverse).map (mv E)).length = n := by
  have hl : n < st.length := by
    rcases Nat.lt_or_ge n st.length with q | q
    · exact q
    · rw [List.drop_eq_nil_of_le q] at h; cases h
  refine ⟨?_, by simp; omega⟩
  conv => lhs; rw [← List.take_append_drop n st, h]
  simp [mv]
def k_callV (l : Launch) (E : Ev) (ci N : Nat) (Y' : My) (d' mc' ms' n : Nat) (k : Kt) (ls : Lv) (st : List Value) (h : Hp) : Prop := popNK n [] st fun as rest0 => pop1r rest0 fun b rest => 9 ≤ b ∧ hS h b = (10 + ci, N) ∧ catS rest ≤ 8 ∧ GoM l E Y' d' mc' ms' (.ref b :: as) h (kont k ls rest)
theorem sd_callV {ci N n i : Nat} {Cn : String} {T : u_T} (hc : vwCl[ci]? = some (Cn, T, N)) (m1 : Cond.methodLink Y.1.cls i Y'.1 ∈ lw_tbl) (m2 : Cond.instanceMethod Y'.1 ∈ lw_tbl) (m3 : Cond.selects Cn Y'.1 Y'.1 ∈ lw_tbl) (m4 : Cond.initialized Cn ∈ lw_tbl) (m5 : Cond.code Y'.1 Y'.2.1 Y'.2.2.1 Y'.2.2.2 ∈ lw_tbl) (hy0 : Y'.1.cls = Cn) (hy : okM Y' n) (hm : Y'.2.2.1 ≤ 40) (hdd : d' + 1 ≤ d) (hcell : cells + mc' ≤ mc) (hslot : slots + ms' ≤ ms) (hd : decode Y.2.1 pc = .ok (.invokevirtual i, 3)) (hk : Sd l E Y d mc ms Q (cells + mc') (slots + ms') (pc + 3) k) : Sd l E Y d mc ms Q cells slots pc (k_callV l E ci N Y' d' mc' ms' n k) := by
  intro ls st h hK p e s m args below meth c C H locs lsm rp sv hL
  obtain ⟨hle, hK⟩ := popN_inv hK
  obtain ⟨b, rest, hst, hb8, hs, hcat, hK⟩ := pop1r_inv hK
  · rw [List.append_nil] at hK
    have ek := C.2.2.2.2.2.2.2.1
    obtain ⟨hstack, hlen⟩ := take_drop_map (E := E) hst
    have hP := rp.P (a := b) (by rw [hs]; simp) hb8
    rw [cell_obj hs] at hP
    have hgood : GoodIn gTbl (wsV Y.1.cls i Cn Y'.1 (wsM Y')) := by
      intro w hw
      rcases List.mem_append.mp hw with h1 | h1
      · simp only [List.mem_cons, List.not_mem_nil, or_false] at h1
        rcases h1 with rfl | rfl | rfl | rfl
        · exact ⟨gTbl_in m1 rfl, good_of_word rfl⟩
        · exact ⟨gTbl_in m2 rfl, good_of_word rfl⟩
        · exact ⟨gTbl_in m3 rfl, good_of_word rfl⟩
        · exact ⟨gTbl_in m4 rfl, good_of_word rfl⟩
      · exact good_in m5 w h1
    refine fin_call (va_runV (As := ((st.take n).reverse).map (mv E)) (rest := rest.map (mv E)) (b := ad E b) ⟨C.1, C.2.1, C.2.2.2.1, C.2.2.2.2.1, C.2.2.2.2.2.1⟩ hK (cwV n C.2.2.2.2.2.1 hgood rfl rfl rfl ⟨hy0, hy⟩ (rm_ok hdd hm)) ⟨pc_blind, va_recv (q0 := 0) ek.1 hP hc rfl, fun U hU hW => ⟨rfl, by rw [hU]; exact rp.moved hW.alike, ek.moved hW⟩⟩ rfl hlen hL.1 hstack (lv_room (by rw [catS_mv]; exact hcat)) hd ⟨hcell, hslot⟩) sv ?_
    intro r h' H1 locs1 hQ rp1 sv1
    exact hk _ _ _ hQ p e s m args below meth c C H1 locs1 lsm rp1 sv1 hL
def k_callI (l : Launch) (E : Ev) (Y' : My) (d' mc' ms' n : Nat) (k : Kt) (ls : Lv) (st : List Value) (h : Hp) : Prop := popNK n [] st fun as rest0 => pop1r rest0 fun b rest => catS rest ≤ 8 ∧ GoM l E Y' d' mc' ms' (.ref b :: as) h (kont k ls rest)
theorem sd_callI {n i : Nat} (m1 : Cond.methodLink Y.1.cls i Y'.1 ∈ lw_tbl) (m2 : Cond.instanceMethod Y'.1 ∈ lw_tbl) (m4 : Cond.initialized Y'.1.cls ∈ lw_tbl) (m5 : Cond.code Y'.1 Y'.2.1 Y'.2.2.1 Y'.2.2.2 ∈ lw_tbl) (hnm : Y'.1.name = "<init>") (hret : Y'.2.2.2 = none) (hy : okM Y' n) (hm : Y'.2.2.1 ≤ 40) (hdd : d' + 1 ≤ d) (hcell : cells + mc' ≤ mc) (hslot : slots + ms' ≤ ms) (hd : decode Y.2.1 pc = .ok (.invokespecial i, 3)) (hk : Sd l E Y d mc ms Q (cells + mc') (slots + ms') (pc + 3) k) : Sd l E Y d mc ms Q cells slots pc (k_callI l E Y' d' mc' ms' n k) := by
  intro ls st h hK p e s m args below meth c C H locs lsm rp sv hL
  obtain ⟨hle, hK⟩ := popN_inv hK
  obtain ⟨b, rest, hst, hcat, hK⟩ := pop1r_inv hK
  · rw [List.append_nil] at hK
    have ek := C.2.2.2.2.2.2.2.1
    obtain ⟨hstack, hlen⟩ := take_drop_map (E := E) hst
    have hw : wsM Y' = Cond.code Y'.1 Y'.2.1 Y'.2.2.1 none :: gTbl := by rw [wsM, hret]
    refine fin_call (va_runI (As := ((st.take n).reverse).map (mv E)) (rest := rest.map (mv E)) (b := ad E b) ⟨C.1, C.2.1, C.2.2.2.1, C.2.2.2.2.1, C.2.2.2.2.2.1⟩ hK (cwI n C.2.2.2.2.2.1 (good_in m5) hw rfl rfl (C.w m4 rfl) (C.w m1 rfl) (C.w m2 rfl) hnm hy (rm_ok hdd hm)) ⟨pc_blind, fun U hU hW => ⟨rfl, by rw [hU]; exact rp.moved hW.alike, ek.moved hW⟩⟩ rfl hlen hL.1 hstack (lv_room (by rw [catS_mv]; exact hcat)) hd ⟨hcell, hslot⟩) sv ?_
    intro r h' H1 locs1 hQ rp1 sv1
    exact hk _ _ _ hQ p e s m args below meth c C H1 locs1 lsm rp1 sv1 hL
theorem sd_callIN {n i : Nat} {host : String} (m1 : (Y.1.cls, i, Y'.1, host) ∈ nestL) (m2 : Cond.instanceMethod Y'.1 ∈ lw_tbl) (m4 : Cond.initialized Y'.1.cls ∈ lw_tbl) (m5 : Cond.code Y'.1 Y'.2.1 Y'.2.2.1 Y'.2.2.2 ∈ lw_tbl) (hnm : Y'.1.name = "<init>") (hret : Y'.2.2.2 = none) (hy : okM Y' n) (hm : Y'.2.2.1 ≤ 40) (hdd : d' + 1 ≤ d) (hcell : cells + mc' ≤ mc) (hslot : slots + ms' ≤ ms) (hd : decode Y.2.1 pc = .ok (.invokespecial i, 3)) (hk : Sd l E Y d mc ms Q (cells + mc') (slots + ms') (pc + 3) k) : Sd l E Y d mc ms Q cells slots pc (k_callI l E Y' d' mc' ms' n k) := by
  intro ls st h hK p e s m args below meth c C H locs lsm rp sv hL
  obtain ⟨hle, hK⟩ := popN_inv hK
  obtain ⟨b, rest, hst, hcat, hK⟩ := pop1r_inv hK
  · rw [List.append_nil] at hK
    have ek := C.2.2.2.2.2.2.2.1
    obtain ⟨hstack, hlen⟩ := take_drop_map (E := E) hst
    have hw : wsM Y' = Cond.code Y'.1 Y'.2.1 Y'.2.2.1 none :: gTbl := by rw [wsM, hret]
    refine fin_call (va_runIN (As := ((st.take n).reverse).map (mv E)) (rest := rest.map (mv E)) (b := ad E b) ⟨C.1, C.2.1, C.2.2.2.1, C.2.2.2.2.1, C.2.2.2.2.2.1⟩ hK ⟨va_cnB n C.2.2.2.2.2.1 (good_in m5) hw rfl rfl (ek.2.2.1 _ m1) (C.w m4 rfl) hy (rm_ok hdd hm), hnm, C.w m2 rfl⟩ ⟨pc_blind, fun U hU hW => ⟨rfl, by rw [hU]; exact rp.moved hW.alike, ek.moved hW⟩⟩ rfl hlen hL.1 hstack (lv_room (by rw [catS_mv]; exact hcat)) hd ⟨hcell, hslot⟩) sv ?_
    intro r h' H1 locs1 hQ rp1 sv1
    exact hk _ _ _ hQ p e s m args below meth c C H1 locs1 lsm rp1 sv1 hL
def k_callS (l : Launch) (E : Ev) (Y' : My) (d' mc' ms' n : Nat) (k : Kt) (ls : Lv) (st : List Value) (h : Hp) : Prop := popNK n [] st fun as rest => catS rest ≤ 8 ∧ GoM l E Y' d' mc' ms' as h (kont k ls rest)
theorem sd_callS {n i : Nat} (m1 : Cond.methodLink Y.1.cls i Y'.1 ∈ lw_tbl) (m2 : Cond.static Y'.1 ∈ lw_tbl) (m4 : Cond.initialized Y'.1.cls ∈ lw_tbl) (m5 : Cond.code Y'.1 Y'.2.1 Y'.2.2.1 Y'.2.2.2 ∈ lw_tbl) (hy : okM Y' n) (hm : Y'.2.2.1 ≤ 40) (hdd : d' + 1 ≤ d) (hcell : cells + mc' ≤ mc) (hslot : slots + ms' ≤ ms) (hd : decode Y.2.1 pc = .ok (.invokestatic i, 3)) (hk : Sd l E Y d mc ms Q (cells + mc') (slots + ms') (pc + 3) k) : Sd l E Y d mc ms Q cells slots pc (k_callS l E Y' d' mc' ms' n k) := by
  intro ls st h hK p e s m args below meth c C H locs lsm rp sv hL
  obtain ⟨hle, hcat, hK⟩ := popN_inv hK
  rw [List.append_nil] at hK
  have ek := C.2.2.2.2.2.2.2.1
  have hstack : st.map (mv E) = (((st.take n).reverse).map (mv E)).reverse ++ (st.drop n).map (mv E) := by
    conv => lhs; rw [← List.take_append_drop n st]
    simp
  have hlen : (((st.take n).reverse).map (mv E)).length = n := by simp; omega
  have hgood : GoodIn gTbl (va_wsS Y.1.cls i Y'.1 (wsM Y')) := by
    intro w hw
    rcases List.mem_append.mp hw with h1 | h1
    · simp only [List.mem_cons, List.not_mem_nil, or_false] at h1
      rcases h1 with rfl | rfl | rfl
      · exact ⟨gTbl_in m1 rfl, good_of_word rfl⟩
      · exact ⟨gTbl_in m2 rfl, good_of_word rfl⟩
      · exact ⟨gTbl_in m4 rfl, good_of_word rfl⟩
    · exact good_in m5 w h1
  refine fin_call (va_runS (As := ((st.take n).reverse).map (mv E)) (rest := (st.drop n).map (mv E)) ⟨C.1, C.2.1, C.2.2.2.1, C.2.2.2.2.1, C.2.2.2.2.2.1⟩ hK (va_cwS n C.2.2.2.2.2.1 hgood rfl rfl rfl hy (rm_ok hdd hm)) ⟨pc_blind, fun U hU hW => ⟨rfl, by rw [hU]; exact rp.moved hW.alike, ek.moved hW⟩⟩ rfl hlen hL.1 hstack (lv_room (by rw [catS_mv]; exact hcat)) hd ⟨hcell, hslot⟩) sv ?_
  intro r h' H1 locs1 hQ rp1 sv1
  exact hk _ _ _ hQ p e s m args below meth c C H1 locs1 lsm rp1 sv1 hL
def k_objInit (k : Kt) (ls : Lv) (st : List Value) (h : Hp) : Prop := pop1r st fun _ r => catS r ≤ 8 ∧ k ls r h
theorem sd_objInit {i : Nat} (m1 : Cond.methodLink Y.1.cls i Lib.objectInit ∈ lw_tbl) (m2 : Cond.instanceMethod Lib.objectInit ∈ lw_tbl) (m3 : Cond.code Lib.objectInit ⟨#[0xb1]⟩ 1 none ∈ lw_tbl) (hdd : 1 ≤ d) (hd : decode Y.2.1 pc = .ok (.invokespecial i, 3)) (hk : Sd l E Y d mc ms Q cells slots (pc + 3) k) : Sd l E Y d mc ms Q cells slots pc (k_objInit k) := by
  intro ls st h hK p e s m args below meth c C H locs lsm rp sv hL
  obtain ⟨a, r, rfl, hcat, hK⟩ := pop1r_inv hK
  exact W.objInit C.1 C.2.1 C.2.2.2.2.1 (C.w m1 rfl) (C.w m2 rfl) (C.w m3 rfl) rfl (hL.1.trans C.2.2.2.1.symm) rfl hd hdd (by show 2 * 0 + (((r.map (mv E)).map fun v => v.category).sum) + 12 ≤ 64 * d; rw [catS_mv]; omega) (hk _ _ _ hK p e s m args below meth c C H locs lsm rp sv hL)
/-! a method's entry -/
def entA (av : List Value) : Lv := match av with
  | [] => []
  | .long x :: t => some (.long x) :: none :: entA t
  | v :: t => some v :: entA t
def ent (n : Nat) (av : List Value) : Lv := entA av ++ List.replicate (n - (entA av).length) none
def plainA (v : Value) : Bool := match v with
  | .double _ => false
  | _ => true
theorem entA_mem {av : List Value} (hp : av.all plainA = true) : ∀ (i j : Nat) (v : Value), (entA av)[j]? = some (some v) → (i + j, mv E v) ∈ lv_args i (av.map (mv E)) := by
  induction av with
  | nil => intro i j v h; simp [entA] at h
  | cons w t ih =>
    simp only [List.all_cons, Bool.and_eq_true] at hp
    intro i j v h
    have ih := ih hp.2
    rw [List.map_cons, lv_args, mv_cat]
    by_cases hl : ∃ x, w = .long x
    · obtain ⟨x, rfl⟩ := hl
      rw [entA] at h
      match j with
      | 0 => simp at h; subst h; exact List.mem_cons_self
      | 1 => simp at h
      | j + 2 =>
        refine List.mem_cons_of_mem _ ?_
        have := ih (i + 2) j v (by simpa using h)
        rw [show i + (j + 2) = i + 2 + j by omega]
        simpa [Value.category] using this
    · have hc : w.category = 1 := by
        cases w <;> first | rfl | (exfalso; exact hl ⟨_, rfl⟩) | simp [plainA] at hp
      have he : entA (w :: t) = some w :: entA t := by
        cases w <;> first | rfl | (exfalso; exact hl ⟨_, rfl⟩)
      rw [he] at h
      match j with
      | 0 => simp at h; subst h; exact List.mem_cons_self
      | j + 1 =>
        refine List.mem_cons_of_mem _ ?_
        have := ih (i + 1) j v (by simpa using h)
        rw [show i + (j + 1) = i + 1 + j by omega]
        simpa [hc] using this
theorem sl_len (av : List Value) (hp : av.all plainA = true) : (lg_sl (av.map (mv E))).length = (entA av).length := by
  induction av with
  | nil => rfl
  | cons w t ih =>
    simp only [List.all_cons, Bool.and_eq_true] at hp
    have ih := ih hp.2
    unfold lg_sl at ih ⊢
    cases w <;> simp_all [mv, Value.category, entA, plainA]
theorem GoM.of {av : List Value} {h : Hp} (hy : plainName Y.1.cls = true) (hp : av.all plainA = true) (hlen : (entA av).length ≤ Y.2.2.1) (hk : Go l E Y d mc ms Q 0 0 0 (ent Y.2.2.1 av) [] h) : GoM l E Y d mc ms av h Q := by
  refine Met.ofW (cc := Y.2.1) (maxL := Y.2.2.1) (ret := Y.2.2.2) hy rfl ?_
  intro p e s m args below meth c s₁ B hml hv
  obtain ⟨rfl, hR0, hK0⟩ := hv
  have hts := atoms_spec (ws := wsM Y) B.pre
  rw [lg_entry_eq]
  have hl := lv_entry (av.map (mv E)) (n := Y.2.2.1) (by rw [sl_len av hp]; exact hlen)
  refine hk p e s m _ below meth c ⟨B.exec, B.bytes, B.returns, hml, findClass_of_methodNamed B.named, fun w hw => hts w (List.mem_cons_of_mem _ hw), B.notSynchronized, hK0, (name_of_methodNamed B.named B.method).1⟩ s.heap [] _ hR0 va_S.rf ?_
  refine LH.of hl fun n v hv => ?_
  unfold ent at hv
  rcases Nat.lt_or_ge n (entA av).length with q | q
  · rw [List.getElem?_append_left q] at hv
    have := entA_mem (E := E) hp 0 n v hv
    rwa [Nat.zero_add] at this
  · rw [List.getElem?_append_right q] at hv
    rw [List.getElem?_replicate] at hv
    split at hv <;> cases hv
/-- fewer frames will do, more cells too -/
theorem k_no_sd : Sd l E Y d mc ms Q cells slots pc (fun _ _ _ => False) := fun _ _ _ h => h.elim
end CALL
