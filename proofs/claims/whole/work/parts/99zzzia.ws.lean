/-- from the entry, for every script of at most 3072 ints, the law comes to its end with 1 -/
theorem whole_start {p : Program} {e : Env} {s : State} {m : MethodId} {below : List Frame} {meth : Method} {c : Code} (l : Launch) {b L : Nat} {xs : Nat → Int32} (hL : L ≤ 3072) (C0 : lw_At p s m meth c b L xs) : W p l e room_1 s m #[Value.ref b] below meth c s.heap [] 0 0 (lw_Z below #[Value.ref b] s) (entryFrame m ([Value.ref b] : List Value).toArray 4) := by
  obtain ⟨E, o, hb, hE, ek, rp⟩ := law_world C0
  subst hb
  have hl := lv_entry ([.ref (E.2.1 8)]) (n := 4) (Nat.le_of_ble_eq_true rfl)
  rw [lg_entry_eq]
  refine law_begin (l := l) o hL p e s m below meth c C0 ek hE s.heap [] _ rp va_S.rf ?_ (fun q => by cases q)
  refine LH.of hl fun n v hv => ?_
  match n, hv with
  | 0, hv =>
    cases hv
    show (0, Value.ref (ad E 8)) ∈ _
    rw [ad_st (by decide)]
    exact List.mem_cons_self
  | 1, hv => cases hv
  | 2, hv => cases hv
  | 3, hv => cases hv
  | n + 4, hv => simp at hv
