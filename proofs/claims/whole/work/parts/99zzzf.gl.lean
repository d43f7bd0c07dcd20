/-! THE LAW'S OWN STEPS: GoL cells slots pc ls st h: from this place of the law on, over this pure heap, it comes to its end with 1. The script lies at the pure address 8; rc: the reference's cell is of its class, though nothing of the pure heap says so (between the two calls) -/
def RcM (E : Ev) (s : State) (H : Heap) : Prop := ∃ cell : Cell, H[ad E 79]? = some cell ∧ cell.vm.isStatics = false ∧ s.vm.findClass RX9 = some cell.cls
def GoL (l : Launch) (E : Ev) (L : Nat) (xs : Nat → Int32) (rc : Bool) (cells slots pc : Nat) (ls : Lv) (st : List Value) (h : Hp) : Prop :=
  ∀ (p : Program) (e : Env) (s : State) (m : MethodId) (below : List Frame) (meth : Method) (c : Code), lw_At p s m meth c (E.2.1 8) L xs → EK E s → E.1 = s.heap.size → ∀ (H : Heap) (locs : List Loc) (lsm : Array Slot), Rep E s h H → va_S (frE E) s.heap H locs → LH E lsm 4 ls → (rc = true → RcM E s H) →
    W p l e room_1 s m #[Value.ref (E.2.1 8)] below meth c H locs cells slots (lw_Z below #[Value.ref (E.2.1 8)] s) (F0 m pc lsm (st.map (mv E)))
def KeepC (st t : State) : Prop := ∀ (a : Nat) (c : Cell), st.heap[a]? = some c → ∃ c' : Cell, t.heap[a]? = some c' ∧ c'.cls = c.cls ∧ c'.vm = c.vm
theorem Met.keep {l : Launch} {y : MethodName} {ws : List Cond} {rm : Room} {Pc : Array Value → State → Prop} {Qc : Array Value → State → Outcome → State → Prop} {mc ms : Nat} {free : Addr → Prop} (h : Met l y ws rm Pc Qc mc ms free) : Met l y ws rm Pc (fun a st o t => Qc a st o t ∧ KeepC st t) mc ms free := by
  refine Jvm.Free.MetFree.mono h (fun _ _ q => q) (fun _ _ _ _ _ q => q) fun a st o t _ hq => ⟨⟨hq.1, ?_⟩, hq.2⟩
  obtain ⟨-, L, F, -⟩ := hq
  intro b c hc
  obtain ⟨c', e1, e2, -⟩ := F.2.2.2.2.2.2.2 b c hc
  exact ⟨c', e1, by rw [e2], by rw [e2]⟩
section GL
variable {l : Launch} {E : Ev} {L : Nat} {xs : Nat → Int32} {rc : Bool} {cells slots pc : Nat} {ls : Lv} {st : List Value} {h : Hp}
theorem gl_iconst {n : Int} {v : Int32} (hv : Int32.ofInt n = v) (hd : decode code pc = .ok (.iconst n, 1)) (k : GoL l E L xs rc cells slots (pc + 1) ls (.int v :: st) h) : GoL l E L xs rc cells slots pc ls st h := by
  intro p e s m below meth c C ek hE H locs lsm hR hS hL hrc
  exact lv_iconst C.1 C.2.1 hd hv (k p e s m below meth c C ek hE H locs lsm hR hS hL hrc)
theorem gl_bipush {n : Int} {v : Int32} (hv : (Int8.ofInt n).toInt32 = v) (hd : decode code pc = .ok (.bipush n, 2)) (k : GoL l E L xs rc cells slots (pc + 2) ls (.int v :: st) h) : GoL l E L xs rc cells slots pc ls st h := by
  intro p e s m below meth c C ek hE H locs lsm hR hS hL hrc
  exact lv_bipush C.1 C.2.1 hd hv (k p e s m below meth c C ek hE H locs lsm hR hS hL hrc)
theorem gl_iload_n {n : Fin 4} {i : Nat} {x : Int32} (hi : (n : Nat) = i) (hx : ls[i]? = some (some (.int x))) (hd : decode code pc = .ok (.iload_n n, 1)) (k : GoL l E L xs rc cells slots (pc + 1) ls (.int x :: st) h) : GoL l E L xs rc cells slots pc ls st h := by
  intro p e s m below meth c C ek hE H locs lsm hR hS hL hrc
  exact lv_iload_n C.1 C.2.1 hd hi (hL.2.2 _ _ hx) (k p e s m below meth c C ek hE H locs lsm hR hS hL hrc)
theorem gl_aload_n {n : Fin 4} {i a : Nat} (hi : (n : Nat) = i) (hx : ls[i]? = some (some (.ref a))) (hd : decode code pc = .ok (.aload_n n, 1)) (k : GoL l E L xs rc cells slots (pc + 1) ls (.ref a :: st) h) : GoL l E L xs rc cells slots pc ls st h := by
  intro p e s m below meth c C ek hE H locs lsm hR hS hL hrc
  exact lv_aload_n C.1 C.2.1 hd hi (hL.2.2 _ _ hx) (k p e s m below meth c C ek hE H locs lsm hR hS hL hrc)
theorem gl_istore_n {n : Fin 4} {i : Nat} {x : Int32} (hi : (n : Nat) = i) (hn : i < 4) (hd : decode code pc = .ok (.istore_n n, 1)) (k : GoL l E L xs rc cells slots (pc + 1) (lset1 ls i (.int x)) st h) : GoL l E L xs rc cells slots pc ls (.int x :: st) h := by
  intro p e s m below meth c C ek hE H locs lsm hR hS hL hrc
  exact lv_istore_n C.1 C.2.1 hd hi hL.has hn rfl (fun lsm2 h2 => k p e s m below meth c C ek hE H locs lsm2 hR hS (LH.set1 h2) hrc)
theorem gl_astore_n {n : Fin 4} {i a : Nat} (hi : (n : Nat) = i) (hn : i < 4) (hd : decode code pc = .ok (.astore_n n, 1)) (k : GoL l E L xs rc cells slots (pc + 1) (lset1 ls i (.ref a)) st h) : GoL l E L xs rc cells slots pc ls (.ref a :: st) h := by
  intro p e s m below meth c C ek hE H locs lsm hR hS hL hrc
  exact lv_astore_n C.1 C.2.1 hd hi hL.has hn rfl (fun lsm2 h2 => k p e s m below meth c C ek hE H locs lsm2 hR hS (LH.set1 (v := .ref a) h2) hrc)
theorem gl_iinc {i : Nat} {n : Int} {x v : Int32} (hv : Int32.ofInt n = v) (hn : i < 4) (hx : ls[i]? = some (some (.int x))) (hd : decode code pc = .ok (.iinc i n, 3)) (k : GoL l E L xs rc cells slots (pc + 3) (lset1 ls i (.int (x + v))) st h) : GoL l E L xs rc cells slots pc ls st h := by
  intro p e s m below meth c C ek hE H locs lsm hR hS hL hrc
  obtain ⟨j, hj⟩ := List.getElem?_of_mem (lassoc_mem (E := E) hx)
  exact lv_iinc C.1 C.2.1 hd hL.has hj (by rw [hv]) hn rfl (fun lsm2 h2 => k p e s m below meth c C ek hE H locs lsm2 hR hS (LH.set1 (v := .int (x + v)) h2) hrc)
theorem gl_iadd {x y : Int32} (hd : decode code pc = .ok (.iadd, 1)) (k : GoL l E L xs rc cells slots (pc + 1) ls (.int (x + y) :: st) h) : GoL l E L xs rc cells slots pc ls (.int y :: .int x :: st) h := by
  intro p e s m below meth c C ek hE H locs lsm hR hS hL hrc
  exact lv_iadd C.1 C.2.1 hd (k p e s m below meth c C ek hE H locs lsm hR hS hL hrc)
theorem gl_isub {x y : Int32} (hd : decode code pc = .ok (.isub, 1)) (k : GoL l E L xs rc cells slots (pc + 1) ls (.int (x - y) :: st) h) : GoL l E L xs rc cells slots pc ls (.int y :: .int x :: st) h := by
  intro p e s m below meth c C ek hE H locs lsm hR hS hL hrc
  exact lv_isub C.1 C.2.1 hd (k p e s m below meth c C ek hE H locs lsm hR hS hL hrc)
theorem gl_iand {x y : Int32} (hd : decode code pc = .ok (.iand, 1)) (k : GoL l E L xs rc cells slots (pc + 1) ls (.int (x &&& y) :: st) h) : GoL l E L xs rc cells slots pc ls (.int y :: .int x :: st) h := by
  intro p e s m below meth c C ek hE H locs lsm hR hS hL hrc
  exact lv_iand C.1 C.2.1 hd (k p e s m below meth c C ek hE H locs lsm hR hS hL hrc)
theorem gl_dup {a : Nat} (hd : decode code pc = .ok (.dup, 1)) (k : GoL l E L xs rc cells slots (pc + 1) ls (.ref a :: .ref a :: st) h) : GoL l E L xs rc cells slots pc ls (.ref a :: st) h := by
  intro p e s m below meth c C ek hE H locs lsm hR hS hL hrc
  exact lv_dup C.1 C.2.1 hd rfl (k p e s m below meth c C ek hE H locs lsm hR hS hL hrc)
theorem gl_goto {off : Int} {tgt : Nat} (ht : (pc : Int) + off = (tgt : Int)) (hd : decode code pc = .ok (.goto off, 3)) (k : GoL l E L xs rc cells slots tgt ls st h) : GoL l E L xs rc cells slots pc ls st h := by
  intro p e s m below meth c C ek hE H locs lsm hR hS hL hrc
  exact lv_goto C.1 C.2.1 hd ht (k p e s m below meth c C ek hE H locs lsm hR hS hL hrc)
theorem gl_icmp_gt {x y : Int32} {off : Int} {tgt : Nat} (ht : (pc : Int) + off = (tgt : Int)) (hd : decode code pc = .ok (.if_icmp .gt off, 3)) (kt : y < x → GoL l E L xs rc cells slots tgt ls st h) (kf : ¬ y < x → GoL l E L xs rc cells slots (pc + 3) ls st h) : GoL l E L xs rc cells slots pc ls (.int y :: .int x :: st) h := by
  intro p e s m below meth c C ek hE H locs lsm hR hS hL hrc
  exact lv_icmp_gt C.1 C.2.1 hd ht (fun q => kt q p e s m below meth c C ek hE H locs lsm hR hS hL hrc) (fun q => kf q p e s m below meth c C ek hE H locs lsm hR hS hL hrc)
/-- both answers are the same -/
theorem gl_same {x : Int32} {off : Int} {tgt : Nat} (ht : (pc : Int) + off = (tgt : Int)) (hd : decode code pc = .ok (.if_icmp .eq off, 3)) (k : GoL l E L xs rc cells slots tgt ls st h) : GoL l E L xs rc cells slots pc ls (.int x :: .int x :: st) h := by
  intro p e s m below meth c C ek hE H locs lsm hR hS hL hrc
  exact lv_icmp_eq C.1 C.2.1 hd ht (fun q => k p e s m below meth c C ek hE H locs lsm hR hS hL hrc) (fun q => absurd rfl q)
theorem cmp_self (x : Int64) : lg_cmp x x = 0 := by
  unfold lg_cmp
  simp
theorem gl_sameL {x : Int64} {off : Int} {tgt : Nat} (ht : (((pc + 1 : Nat) : Int)) + off = (tgt : Int)) (hd : decode code pc = .ok (.lcmp, 1)) (hd2 : decode code (pc + 1) = .ok (.ifCond .eq off, 3)) (k : GoL l E L xs rc cells slots tgt ls st h) : GoL l E L xs rc cells slots pc ls (.long x :: .long x :: st) h := by
  intro p e s m below meth c C ek hE H locs lsm hR hS hL hrc
  refine W.lcmp C.1 C.2.1 hd ?_
  rw [cmp_self]
  exact lv_if_eq C.1 C.2.1 hd2 ht (fun q => k p e s m below meth c C ek hE H locs lsm hR hS hL hrc) (fun q => absurd rfl q)
theorem gl_slen (hd : decode code pc = .ok (.arraylength, 1)) (k : GoL l E L xs rc cells slots (pc + 1) ls (.int (nI L) :: st) h) : GoL l E L xs rc cells slots pc ls (.ref 8 :: st) h := by
  intro p e s m below meth c C ek hE H locs lsm hR hS hL hrc
  have e8 : ad E 8 = E.2.1 8 := ad_st (by decide)
  show W p l e room_1 s m _ below meth c H locs cells slots _ (F0 m pc lsm (.ref (ad E 8) :: st.map (mv E)))
  rw [e8]
  exact va_slen (A := frE E) C.1 C.2.1 C.2.2.2.2.2.2.1 C.2.2.2.2.2.2.2.1 (by show ¬ E.1 ≤ _; rw [hE]; exact Nat.not_le.mpr C.2.2.2.2.2.2.2.1) hS hd (k p e s m below meth c C ek hE H locs lsm hR hS hL hrc)
theorem gl_sld {i : Int32} (hi : vp_in i L) (hd : decode code pc = .ok (.iaload, 1)) (k : GoL l E L xs rc cells slots (pc + 1) ls (.int (xs i.toNatClampNeg) :: st) h) : GoL l E L xs rc cells slots pc ls (.int i :: .ref 8 :: st) h := by
  intro p e s m below meth c C ek hE H locs lsm hR hS hL hrc
  have e8 : ad E 8 = E.2.1 8 := ad_st (by decide)
  show W p l e room_1 s m _ below meth c H locs cells slots _ (F0 m pc lsm (.int i :: .ref (ad E 8) :: st.map (mv E)))
  rw [e8]
  exact va_sld (A := frE E) C.1 C.2.1 C.2.2.2.2.2.2.1 C.2.2.2.2.2.2.2.1 (by show ¬ E.1 ≤ _; rw [hE]; exact Nat.not_le.mpr C.2.2.2.2.2.2.2.1) hS hi hd (k p e s m below meth c C ek hE H locs lsm hR hS hL hrc)
theorem gl_table {dflt hi : Int} {offs : Array Int} {len N dt : Nat} {tgs : List Nat} {x : Int32} (hN : hi = (N : Int) - 1) (hd : decode code pc = .ok (.tableswitch dflt 0 hi offs, len)) (hdt : (pc : Int) + dflt = (dt : Int)) (ho : ∀ k, k < N → offs[k]? = some ((tgs.getD k 0 : Int) - (pc : Int))) (kk : ∀ k, k < N → GoL l E L xs rc cells slots (tgs.getD k 0) ls st h) (kd : GoL l E L xs rc cells slots dt ls st h) : GoL l E L xs rc cells slots pc ls (.int x :: st) h := by
  intro p e s m below meth c C ek hE H locs lsm hR hS hL hrc
  subst hN
  by_cases q : x.toInt < 0 ∨ (N : Int) - 1 < x.toInt
  · exact lv_tableOut C.1 C.2.1 hd q hdt (kd p e s m below meth c C ek hE H locs lsm hR hS hL hrc)
  · have hk : (x.toInt - 0).toNat < N := by omega
    refine lv_tableIn C.1 C.2.1 hd (by omega) (by omega) (ho _ hk) (tgt := tgs.getD (x.toInt - 0).toNat 0) (by omega) (kk _ hk p e s m below meth c C ek hE H locs lsm hR hS hL hrc)
/-- its end: 1 -/
theorem gl_ret (hc : cells ≤ 600000) (hs : slots ≤ 7302250) (hd : decode code pc = .ok (.ireturn, 1)) : GoL l E L xs rc cells slots pc ls [.int 1] h := by
  intro p e s m below meth c C ek hE H locs lsm hR hS hL hrc
  refine va_forget (fun q hq => by rw [← hE]; exact hS.2.2 q hq) ?_
  refine W.widen hc hs ?_
  exact lw_ret C.1 C.2.1 C.2.2.1 C.2.2.2.2.2.2.2.2.1 hd
/-- the reference's cell, told by the pure heap -/
theorem gl_rc (hs : hS h 79 = (19, 55)) (k : GoL l E L xs true cells slots pc ls st h) : GoL l E L xs rc cells slots pc ls st h := by
  intro p e s m below meth c C ek hE H locs lsm hR hS hL hrc
  refine k p e s m below meth c C ek hE H locs lsm hR hS hL fun _ => ?_
  have hP := hR.P (a := 79) (by rw [hs]; simp) (by decide)
  rw [cell_obj (c := 9) hs] at hP
  exact va_recv (q0 := 0) ek.1 hP (ci := 9) (q := (RX9, TX9, 55)) rfl rfl
theorem gl_forget (k : GoL l E L xs false cells slots pc ls st h) : GoL l E L xs rc cells slots pc ls st h := by
  intro p e s m below meth c C ek hE H locs lsm hR hS hL hrc
  exact k p e s m below meth c C ek hE H locs lsm hR hS hL (fun q => by cases q)
theorem gl_widen {cells' slots' : Nat} (h1 : cells ≤ cells') (h2 : slots ≤ slots') (k : GoL l E L xs rc cells' slots' pc ls st h) : GoL l E L xs rc cells slots pc ls st h := by
  intro p e s m below meth c C ek hE H locs lsm hR hS hL hrc
  exact W.widen h1 h2 (k p e s m below meth c C ek hE H locs lsm hR hS hL hrc)
/-! calls -/
theorem fin_callL {p : Program} {e : Env} {R : Room} {s : State} {m : MethodId} {args : Array Value} {below : List Frame} {meth : Method} {c : Code} {H : Heap} {locs : List Loc} {lsm : Array Slot} {Q0 : State → Prop} {Q' : Option Value → Hp → Prop} {rest st0 : List Value} {a : Array Value} {mc' ms' : Nat}
    (hr : va_Run p l e R s m args below meth c H locs cells slots mc' ms' (F0 m pc lsm st0) (rest.map (mv E)) (fun u o t => QcP E Q' a u o t ∧ KeepC u t) (frE E)) (sv : va_S (frE E) s.heap H locs) (hrc : rc = true → RcM E s H)
    (kk : ∀ (r : Option Value) (h' : Hp) (H1 : Heap) (locs1 : List Loc), Q' r h' → Rep E s h' H1 → va_S (frE E) s.heap H1 locs1 → (rc = true → RcM E s H1) → W p l e R s m args below meth c H1 locs1 (cells + mc') (slots + ms') Q0 (F0 m (pc + 3) lsm ((r.toList ++ rest).map (mv E)))) :
    W p l e R s m args below meth c H locs cells slots Q0 (F0 m pc lsm st0) := by
  intro T hT X
  obtain ⟨v, st₀, t, T', LL, h0, X', hL, e1, e2, ⟨⟨⟨r, h', hQ, ho, hR'⟩, hz, hk⟩, hkc⟩, st⟩ := hr T hT X
  cases ho
  rw [h0] at hz hk
  obtain ⟨t2, a1, b1⟩ := kk r h' T'.heap (locs ++ LL) hQ (by rw [e1]; exact hR'.moved (by rw [← e2]; exact X'.warmed.alike.symm))
    ⟨Nat.le_trans sv.1 (by rw [e1]; exact hz), fun q h1 h2 => by rw [e1, hk q (Nat.lt_of_lt_of_le h1 sv.1) h2]; exact sv.2.1 q h1 h2, fun q hq => by
      rcases List.mem_append.mp hq with h | h
      · exact sv.2.2 q h
      · exact hL q h⟩ (fun q => by
      obtain ⟨cell, g1, g2, g3⟩ := hrc q
      obtain ⟨c', f1, f2, f3⟩ := hkc _ cell (by rw [h0]; exact g1)
      exact ⟨c', by rw [e1]; exact f1, by rw [f3]; exact g2, by rw [f2]; exact g3⟩) T' rfl X'
  refine ⟨t2, st t2 ?_, b1⟩
  cases r <;> exact a1
theorem rm_okL {Y' : My} {d' mc' ms' : Nat} (hd' : d' ≤ 1000) (hm : Y'.2.2.1 ≤ 40) : (rmD d' mc' ms').frames + 1 ≤ room_1.frames ∧ 8 + (Y'.2.2.1 + 11) + (rmD d' mc' ms').locals ≤ room_1.locals := ⟨by show d' + 1 ≤ 2048; omega, by show 8 + (Y'.2.2.1 + 11) + 64 * d' ≤ 84000; omega⟩
theorem gTs {s : State} {b : Nat} (hts : ∀ w ∈ lw_tbl, w.before #[Value.ref b] s = true) : ∀ w ∈ gTbl, w.before #[Value.ref b] s = true := fun w hw => hts w (List.mem_filter.mp hw).1
theorem gl_call {Y' : My} {n i d' mc' ms' : Nat} {Cn : String} {as rest : List Value} {b' : Nat}
    (m1 : Cond.methodLink R_law i Y'.1 ∈ lw_tbl) (m2 : Cond.instanceMethod Y'.1 ∈ lw_tbl) (m3 : Cond.selects Cn Y'.1 Y'.1 ∈ lw_tbl) (m4 : Cond.initialized Cn ∈ lw_tbl) (m5 : Cond.code Y'.1 Y'.2.1 Y'.2.2.1 Y'.2.2.2 ∈ lw_tbl) (hy0 : Y'.1.cls = Cn) (hy : okM Y' n) (hm : Y'.2.2.1 ≤ 40) (hd' : d' ≤ 1000) (hcell : cells + mc' ≤ 600000) (hslot : slots + ms' ≤ 7302250) (hn : as.length = n) (hd : decode code pc = .ok (.invokevirtual i, 3)) (hcat : catS rest ≤ 8)
    (hrv : ∀ (s : State) (H : Heap), EK E s → Rep E s h H → (rc = true → RcM E s H) → ∃ cell : Cell, H[ad E b']? = some cell ∧ cell.vm.isStatics = false ∧ s.vm.findClass Cn = some cell.cls)
    (hG : GoM l E Y' d' mc' ms' (.ref b' :: as) h (fun r h' => GoL l E L xs rc (cells + mc') (slots + ms') (pc + 3) ls (r.toList ++ rest) h')) : GoL l E L xs rc cells slots pc ls (as.reverse ++ .ref b' :: rest) h := by
  intro p e s m below meth c C ek hE H locs lsm hR hS hL hrc
  have hts := gTs C.2.2.2.2.2.1
  have hgood : GoodIn gTbl (wsV R_law i Cn Y'.1 (wsM Y')) := by
    intro w hw
    rcases List.mem_append.mp hw with h1 | h1
    · simp only [List.mem_cons, List.not_mem_nil, or_false] at h1
      rcases h1 with rfl | rfl | rfl | rfl
      · exact ⟨gTbl_in m1 rfl, good_of_word rfl⟩
      · exact ⟨gTbl_in m2 rfl, good_of_word rfl⟩
      · exact ⟨gTbl_in m3 rfl, good_of_word rfl⟩
      · exact ⟨gTbl_in m4 rfl, good_of_word rfl⟩
    · exact good_in m5 w h1
  have hstack : (as.reverse ++ .ref b' :: rest).map (mv E) = (as.map (mv E)).reverse ++ .ref (ad E b') :: rest.map (mv E) := by simp [mv]
  refine fin_callL (va_runV (As := as.map (mv E)) (rest := rest.map (mv E)) (b := ad E b') ⟨C.1, C.2.1, C.2.2.2.1, C.2.2.2.2.1, hts⟩ (Met.keep hG) (cwV n hts hgood rfl rfl rfl ⟨hy0, hy⟩ (rm_okL hd' hm)) ⟨pc_blind, hrv s H ek hR hrc, fun U hU hW => ⟨rfl, by rw [hU]; exact hR.moved hW.alike, ek.moved hW⟩⟩ rfl (by rw [List.length_map]; exact hn) hL.1 hstack (lv_room (by rw [catS_mv]; exact hcat)) hd ⟨hcell, hslot⟩) hS hrc ?_
  intro r h' H1 locs1 hQ rp1 sv1 hrc1
  exact hQ p e s m below meth c C ek hE H1 locs1 lsm rp1 sv1 hL hrc1
/-- the class is called -/
theorem gl_call8 {Y' : My} {n i d' mc' ms' : Nat} {as rest : List Value} (m1 : Cond.methodLink R_law i Y'.1 ∈ lw_tbl) (m2 : Cond.instanceMethod Y'.1 ∈ lw_tbl) (m3 : Cond.selects RX8 Y'.1 Y'.1 ∈ lw_tbl) (m4 : Cond.initialized RX8 ∈ lw_tbl) (m5 : Cond.code Y'.1 Y'.2.1 Y'.2.2.1 Y'.2.2.2 ∈ lw_tbl) (hy0 : Y'.1.cls = RX8) (hy : okM Y' n) (hm : Y'.2.2.1 ≤ 40) (hd' : d' ≤ 1000) (hcell : cells + mc' ≤ 600000) (hslot : slots + ms' ≤ 7302250) (hn : as.length = n) (hd : decode code pc = .ok (.invokevirtual i, 3)) (hcat : catS rest ≤ 8) (hs : hS h 9 = (18, 19))
    (hG : GoM l E Y' d' mc' ms' (.ref 9 :: as) h (fun r h' => GoL l E L xs rc (cells + mc') (slots + ms') (pc + 3) ls (r.toList ++ rest) h')) : GoL l E L xs rc cells slots pc ls (as.reverse ++ .ref 9 :: rest) h := by
  refine gl_call m1 m2 m3 m4 m5 hy0 hy hm hd' hcell hslot hn hd hcat (fun s H ek hR _ => ?_) hG
  have hP := hR.P (a := 9) (by rw [hs]; simp) (by decide)
  rw [cell_obj (c := 8) hs] at hP
  exact va_recv (q0 := 0) ek.1 hP (ci := 8) (q := (RX8, TX8, 19)) rfl rfl
/-- the reference is called -/
theorem gl_call9 {Y' : My} {n i d' mc' ms' : Nat} {as rest : List Value} (m1 : Cond.methodLink R_law i Y'.1 ∈ lw_tbl) (m2 : Cond.instanceMethod Y'.1 ∈ lw_tbl) (m3 : Cond.selects RX9 Y'.1 Y'.1 ∈ lw_tbl) (m4 : Cond.initialized RX9 ∈ lw_tbl) (m5 : Cond.code Y'.1 Y'.2.1 Y'.2.2.1 Y'.2.2.2 ∈ lw_tbl) (hy0 : Y'.1.cls = RX9) (hy : okM Y' n) (hm : Y'.2.2.1 ≤ 40) (hd' : d' ≤ 1000) (hcell : cells + mc' ≤ 600000) (hslot : slots + ms' ≤ 7302250) (hn : as.length = n) (hd : decode code pc = .ok (.invokevirtual i, 3)) (hcat : catS rest ≤ 8)
    (hG : GoM l E Y' d' mc' ms' (.ref 79 :: as) h (fun r h' => GoL l E L xs true (cells + mc') (slots + ms') (pc + 3) ls (r.toList ++ rest) h')) : GoL l E L xs true cells slots pc ls (as.reverse ++ .ref 79 :: rest) h :=
  gl_call m1 m2 m3 m4 m5 hy0 hy hm hd' hcell hslot hn hd hcat (fun _ _ _ _ q => q rfl) hG
/-- a constructor is called -/
theorem gl_init {Y' : My} {i d' mc' ms' a : Nat} {rest : List Value} (m1 : Cond.methodLink R_law i Y'.1 ∈ lw_tbl) (m2 : Cond.instanceMethod Y'.1 ∈ lw_tbl) (m4 : Cond.initialized Y'.1.cls ∈ lw_tbl) (m5 : Cond.code Y'.1 Y'.2.1 Y'.2.2.1 Y'.2.2.2 ∈ lw_tbl) (hnm : Y'.1.name = "<init>") (hret : Y'.2.2.2 = none) (hy : okM Y' 0) (hm : Y'.2.2.1 ≤ 40) (hd' : d' ≤ 1000) (hcell : cells + mc' ≤ 600000) (hslot : slots + ms' ≤ 7302250) (hd : decode code pc = .ok (.invokespecial i, 3)) (hcat : catS rest ≤ 8)
    (hG : GoM l E Y' d' mc' ms' [.ref a] h (fun r h' => GoL l E L xs false (cells + mc') (slots + ms') (pc + 3) ls (r.toList ++ rest) h')) : GoL l E L xs false cells slots pc ls (.ref a :: rest) h := by
  intro p e s m below meth c C ek hE H locs lsm hR hS hL hrc
  have hts := gTs C.2.2.2.2.2.1
  have hw : wsM Y' = Cond.code Y'.1 Y'.2.1 Y'.2.2.1 none :: gTbl := by rw [wsM, hret]
  refine fin_call (va_runI (As := []) (rest := rest.map (mv E)) (b := ad E a) ⟨C.1, C.2.1, C.2.2.2.1, C.2.2.2.2.1, hts⟩ hG (cwI 0 hts (good_in m5) hw rfl rfl (hts _ (gTbl_in m4 rfl)) (hts _ (gTbl_in m1 rfl)) (hts _ (gTbl_in m2 rfl)) hnm hy (rm_okL hd' hm)) ⟨pc_blind, fun U hU hW => ⟨rfl, by rw [hU]; exact hR.moved hW.alike, ek.moved hW⟩⟩ rfl rfl hL.1 rfl (lv_room (by rw [catS_mv]; exact hcat)) hd ⟨hcell, hslot⟩) hS ?_
  intro r h' H1 locs1 hQ rp1 sv1
  exact hQ p e s m below meth c C ek hE H1 locs1 lsm rp1 sv1 hL (fun q => by cases q)
theorem gl_new {ci N i : Nat} {Cn : String} {T : u_T} (hc : Cls ci Cn T N) (hok : ∀ j, j < N → okT (tyF ci j) = true) (m1 : Cond.classLink R_law i Cn ∈ lw_tbl) (m2 : Cond.instantiable Cn N ∈ lw_tbl) (m3 : Cond.initialized Cn ∈ lw_tbl) (hcell : cells + 1 ≤ 600000) (hslot : slots + N ≤ 7302250) (hd : decode code pc = .ok (.new i, 3)) (k : GoL l E L xs false (cells + 1) (slots + N) (pc + 3) ls (.ref (hN h) :: st) (nw h (10 + ci) N)) : GoL l E L xs false cells slots pc ls st h := by
  intro p e s m below meth c C ek hE H locs lsm rp sv hL hrc
  have hts := gTs C.2.2.2.2.2.1
  have hKn := ek.1.1 ci _ hc.1
  refine W.newcK C.1 C.2.1 C.2.2.2.2.1 (hts _ (gTbl_in m1 rfl)) (hts _ (gTbl_in m2 rfl)) (hts _ (gTbl_in m3 rfl)) rfl hd hcell hslot hKn.2.1 rfl fun H1 kC hkC e1 z1 o1 => ?_
  have w := k p e s m below meth c C ek hE H1 locs lsm (rp.new ek.2.1 z1 o1 ?_) (sv.new z1 o1) hL (fun q => by cases q)
  · rw [List.map_cons] at w
    show W _ _ _ _ _ _ _ _ _ _ _ _ _ _ _ (F0 m (pc + 3) lsm (.ref H.size :: st.map (mv E)))
    rw [← ad_new rp]
    exact w
  · rw [cell_obj (c := ci) (n := N) (by rw [hS_nw, if_pos rfl])]
    refine ⟨_, hc.1, (u_born (tyF ci) hts (ux_in hc.2.1) hKn hkC (by rw [ad_new rp]; exact e1) hc.2.2.1).to fun j hj => ?_⟩
    rw [okT_def (E := E) (hok j hj)]
    show _ = vp_V (fvs E _ _ _ _) j
    simp [vp_V, fvs, hI_nw, hJ_nw, hR_nw, hj]
/-- the law's locals in its loop -/
def LJ (j : Nat) : Lv := [some (.ref 8), some (.ref 9), some (.ref 79), some (.int (nI j))]
/-- an argument: script[i + k] -/
theorem gl_arg {j k : Nat} {kk : Int} (d0 : decode code pc = .ok (.aload_n 0, 1)) (d1 : decode code (pc + 1) = .ok (.iload_n 3, 1)) (d2 : decode code (pc + 2) = .ok (.iconst kk, 1)) (d3 : decode code (pc + 3) = .ok (.iadd, 1)) (d4 : decode code (pc + 4) = .ok (.iaload, 1)) (hk : Int32.ofInt kk = nI k) (hL : L ≤ 3072) (hj : j + 6 ≤ L) (hk6 : k < 6) (K : GoL l E L xs rc cells slots (pc + 5) (LJ j) (.int (xs (j + k)) :: st) h) : GoL l E L xs rc cells slots pc (LJ j) st h := by
  refine gl_aload_n (i := 0) (a := 8) rfl rfl d0 (gl_iload_n (i := 3) (x := nI j) rfl rfl d1 (gl_iconst hk d2 (gl_iadd d3 ?_)))
  rw [nI_add]
  refine gl_sld (vp_in_nI (by omega) (by omega)) d4 ?_
  rw [nI_clamp (by omega)]
  exact K
end GL
