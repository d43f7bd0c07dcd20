/-! THE LAW'S LOOP, and its beginning -/
section LP
variable {l : Launch} {E : Ev} {L : Nat} {xs : Nat → Int32}
theorem sub6 {j : Nat} (hL : L ≤ 3072) (hj : j ≤ 4000) : (nI L - 6 < nI j) ↔ L < j + 6 := by
  have e : (nI L - 6).toInt = (L : Int) - 6 := by
    rw [Int32.toInt_sub, nI_toInt (by omega), show ((6 : Int32)).toInt = 6 from rfl, Int.bmod_eq_of_le (by omega) (by omega)]
  rw [i_lt, e, nI_toInt (by omega)]
  omega
theorem law_head {cells slots j : Nat} {h : Hp} (hL : L ≤ 3072) (hj : j ≤ 4000) (kx : L < j + 6 → GoL l E L xs false cells slots 1453 (LJ j) [] h) (kn : j + 6 ≤ L → GoL l E L xs false cells slots 27 (LJ j) [] h) : GoL l E L xs false cells slots 18 (LJ j) [] h := by
  refine gl_iload_n (i := 3) (x := nI j) rfl rfl dL_18 ?_
  refine gl_aload_n (i := 0) (a := 8) rfl rfl dL_19 ?_
  refine gl_slen dL_20 ?_
  refine gl_bipush (v := 6) (by decide) dL_21 ?_
  refine gl_isub dL_23 ?_
  refine gl_icmp_gt (tgt := 1453) (by decide) dL_24 (fun q => kx ((sub6 hL hj).mp q)) (fun q => kn ?_)
  have := mt (sub6 (L := L) hL hj).mpr q
  omega
theorem law_exit {cells slots j : Nat} {h : Hp} (hc : cells ≤ 600000) (hs : slots ≤ 7302250) : GoL l E L xs false cells slots 1453 (LJ j) [] h := by
  refine gl_iconst (v := 1) (by decide) dL_1453 ?_
  exact gl_ret hc hs dL_1454
theorem law_next {cells slots j : Nat} {h : Hp} (k : GoL l E L xs false cells slots 18 (LJ (j + 6)) [] h) : GoL l E L xs false cells slots 1447 (LJ j) [] h := by
  refine gl_iinc (i := 3) (x := nI j) (v := 6) (by decide) (by decide) rfl dL_1447 ?_
  refine gl_goto (tgt := 18) (by decide) dL_1450 ?_
  have e : lset1 (LJ j) 3 (.int (nI j + 6)) = LJ (j + 6) := by
    show ([some (.ref 8), some (.ref 9), some (.ref 79), some (.int (nI j + 6))] : Lv) = _
    rw [show nI j + 6 = nI (j + 6) from nI_add j 6]
    rfl
  rw [e]
  exact k
set_option maxRecDepth 100000 in
theorem law_loop (hL : L ≤ 3072) : ∀ (n j cells slots : Nat) (h : Hp), L < j + 6 * n + 6 → j ≤ 3072 → cells + 4 * n ≤ 600000 → slots + 1203 * n ≤ 7302250 → Inv1 h → GoL l E L xs false cells slots 18 (LJ j) [] h := by
  intro n
  induction n with
  | zero =>
    intro j cells slots h h1 h2 h3 h4 V
    exact law_head hL (by omega) (fun _ => law_exit (by omega) (by omega)) (fun q => absurd q (by omega))
  | succ n ih =>
    intro j cells slots h h1 h2 h3 h4 V
    refine law_head hL (by omega) (fun _ => law_exit (by omega) (by omega)) (fun q => ?_)
    refine gl_aload_n (i := 0) (a := 8) rfl rfl dL_27 ?_
    refine gl_iload_n (i := 3) (x := nI j) rfl rfl dL_28 ?_
    refine gl_sld (vp_in_nI (by omega) (by omega)) dL_29 ?_
    refine gl_bipush (v := 63) (by decide) dL_30 ?_
    refine gl_iand dL_32 ?_
    have K : ∀ h2, Inv1 h2 → GoL l E L xs false (cells + 4) (slots + 1203) 1447 (LJ j) [] h2 := fun h2 V2 => law_next (ih (j + 6) (cells + 4) (slots + 1203) h2 (by omega) (by omega) (by omega) (by omega) V2)
    refine gl_table (N := 44) (dt := 1447) (tgs := lTgs) (by decide) dL_33 (by decide) (by decide) (lc_all hL q (by omega) (by omega) V K) ?_
    exact gl_widen (by omega) (by omega) (K h V)
/-- both objects are made; the loop begins -/
theorem law_begin (o : Option Nat) (hL : L ≤ 3072) : GoL l E L xs false 0 0 0 [some (.ref 8), none, none, none] [] (h0 o) := by
  refine gl_new clsX8 okX8 mw_119 mw_120 mw_100 (by omega) (by omega) dL_0 ?_
  show GoL l E L xs false (0 + 1) (0 + 19) 3 [some (.ref 8), none, none, none] [.ref 9] (nwA (h0 o) 9 18 19)
  refine gl_dup dL_3 ?_
  refine gl_init (Y' := YX8_init) mw_121 mw_122 mw_100 mw_123 rfl rfl okmX8_init (Nat.le_of_ble_eq_true rfl) (by decide) (by omega) (by omega) dL_4 (by decide) (c_i8_9 (d := 0) ⟨rfl, rfl, by decide, by decide⟩ ?_)
  show GoL l E L xs false (0 + 1 + 69) (0 + 19 + 6396) 7 [some (.ref 8), none, none, none] [.ref 9] (i8_9 (nwA (h0 o) 9 18 19))
  refine gl_astore_n (i := 1) rfl (by decide) dL_7 ?_
  show GoL l E L xs false (0 + 1 + 69) (0 + 19 + 6396) 8 [some (.ref 8), some (.ref 9), none, none] [] (i8_9 (nwA (h0 o) 9 18 19))
  refine gl_new clsX9 okX9 mw_1157 mw_1158 mw_108 (by omega) (by omega) dL_8 ?_
  show GoL l E L xs false (0 + 1 + 69 + 1) (0 + 19 + 6396 + 55) 11 [some (.ref 8), some (.ref 9), none, none] [.ref 79] (nwA (i8_9 (nwA (h0 o) 9 18 19)) 79 19 55)
  refine gl_dup dL_11 ?_
  refine gl_init (Y' := YX9_init) mw_1159 mw_1160 mw_108 mw_1161 rfl rfl okmX9_init (Nat.le_of_ble_eq_true rfl) (by decide) (by omega) (by omega) dL_12 (by decide) (c_i9_79 (d := 0) ⟨rfl, rfl, by decide, by decide⟩ ?_)
  show GoL l E L xs false (0 + 1 + 69 + 1 + 26) (0 + 19 + 6396 + 55 + 86312) 15 [some (.ref 8), some (.ref 9), none, none] [.ref 79] (hZ o)
  refine gl_astore_n (i := 2) rfl (by decide) dL_15 ?_
  show GoL l E L xs false (0 + 1 + 69 + 1 + 26) (0 + 19 + 6396 + 55 + 86312) 16 [some (.ref 8), some (.ref 9), some (.ref 79), none] [] (hZ o)
  refine gl_iconst (v := 0) (by decide) dL_16 ?_
  refine gl_istore_n (i := 3) rfl (by decide) dL_17 ?_
  show GoL l E L xs false (0 + 1 + 69 + 1 + 26) (0 + 19 + 6396 + 55 + 86312) 18 (LJ 0) [] (hZ o)
  exact law_loop hL 512 0 _ _ (hZ o) (by omega) (by omega) (by omega) (by omega) (z_inv1 o)
end LP
