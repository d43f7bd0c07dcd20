/-! THE CONSTRUCTORS, at the addresses where the law makes them -/
def nwA (h : Hp) (a k n : Nat) : Hp := (va_up h.1 a (k, n), va_up h.2.1 a (fun _ => 0), va_up h.2.2.1 a (fun _ => 0), va_up h.2.2.2.1 a (fun _ => none), a + 1)
theorem nw_A (h : Hp) (k n : Nat) : nw h k n = nwA h (hN h) k n := rfl
theorem hN_nwA (h : Hp) (a k n : Nat) : hN (nwA h a k n) = a + 1 := rfl
theorem hS_nwA (h : Hp) (a k n b : Nat) : hS (nwA h a k n) b = if b = a then (k, n) else hS h b := rfl
theorem hR_nwA (h : Hp) (a k n b : Nat) : hR (nwA h a k n) b = if b = a then (fun _ => none) else hR h b := rfl
theorem hI_nwA (h : Hp) (a k n b : Nat) : hI (nwA h a k n) b = if b = a then (fun _ => 0) else hI h b := rfl
theorem qS_sR {h : Hp} {a i b : Nat} {v : Option Nat} : hS (sR h a i v) b = hS h b := Eq.trans (hS_sR h a i b v) (Eq.refl _)
theorem qS_sI {h : Hp} {a i b : Nat} {v : Int32} : hS (sI h a i v) b = hS h b := Eq.trans (hS_sI h a i b v) (Eq.refl _)
theorem qS_sJ {h : Hp} {a i b : Nat} {v : Int64} : hS (sJ h a i v) b = hS h b := Eq.trans (hS_sJ h a i b v) (Eq.refl _)
theorem hS_nwN {h : Hp} {a k n b : Nat} (e : b ≠ a) : hS (nwA h a k n) b = hS h b := if_neg e
/-- the object under way, how many cells -/
def Bd (a : Nat) (S : Nat × Nat) (n : Nat) (h : Hp) : Prop := hN h = n ∧ hS h a = S ∧ 9 ≤ a ∧ a < n
theorem Bd.nwa {a n k z : Nat} {S : Nat × Nat} {h : Hp} (b : Bd a S n h) : Bd a S (n + 1) (nwA h n k z) := ⟨rfl, by rw [hS_nwA, if_neg (Nat.ne_of_lt b.2.2.2)]; exact b.2.1, b.2.2.1, Nat.lt_succ_of_lt b.2.2.2⟩
theorem Bd.own {a n k z : Nat} {S : Nat × Nat} {h : Hp} (b : Bd a S n h) : Bd n (k, z) (n + 1) (nwA h n k z) := ⟨rfl, by rw [hS_nwA, if_pos rfl], Nat.le_trans b.2.2.1 (Nat.le_of_lt b.2.2.2), Nat.lt_succ_self n⟩
section RW
variable {l : Launch} {E : Ev} {a n ci N f ki B x y z' i' len : Nat} {S : Nat × Nat} {h : Hp} {K : Kt} {t : Lv} {ls : Lv} {st : List Value} {z i v : Int32} {j : Int64} {Y' : My} {d' mc' ms' : Nat}
theorem kont_in {k : Kt} (hk : k ls st h) : kont k ls st none h := hk
theorem r_obj (k : K (some (.ref a) :: t) [] h) : k_aload 0 (k_objInit K) (some (.ref a) :: t) [] h := ⟨by decide, k⟩
theorem r_arr (b : Bd a S n h) (hz : ¬ z < 0) (hz2 : z.toNatClampNeg = z') (hB : z' ≤ B) (k : Bd a S (n + 1) (nwA h n ki z') → K (some (.ref a) :: t) [.ref n, .ref a] (nwA h n ki z')) : k_aload 0 (k_push (.int z) (k_newarr ki B K)) (some (.ref a) :: t) [] h := by
  have k := k b.nwa
  show ¬ z < 0 ∧ z.toNatClampNeg ≤ B ∧ K (some (.ref a) :: t) [.ref (hN h), .ref a] (nw h ki z.toNatClampNeg)
  rw [nw_A, b.1, hz2]
  exact ⟨hz, hB, k⟩
theorem r_anw (b : Bd a S n h) (hz : ¬ z < 0) (hz2 : z.toNatClampNeg = z') (hB : z' ≤ B) (k : Bd a S (n + 1) (nwA h n ki z') → K (some (.ref a) :: t) [.ref n, .ref a] (nwA h n ki z')) : k_aload 0 (k_push (.int z) (k_anew ki B K)) (some (.ref a) :: t) [] h := by
  have k := k b.nwa
  show ¬ z < 0 ∧ z.toNatClampNeg ≤ B ∧ K (some (.ref a) :: t) [.ref (hN h), .ref a] (nw h ki z.toNatClampNeg)
  rw [nw_A, b.1, hz2]
  exact ⟨hz, hB, k⟩
theorem r_put (b : Bd a (10 + ci, N) n h) (k : Bd a (10 + ci, N) n (sR h a f (some x)) → K ls [] (sR h a f (some x))) : k_putR ci N f K ls [.ref x, .ref a] h := ⟨b.2.2.1, b.2.1, k b⟩
theorem r_puti (b : Bd a (10 + ci, N) n h) (k : Bd a (10 + ci, N) n (sI h a f v) → K (some (.ref a) :: t) [] (sI h a f v)) : k_aload 0 (k_push (.int v) (k_putI ci N f K)) (some (.ref a) :: t) [] h := ⟨b.2.2.1, b.2.1, k b⟩
theorem r_put1 (b : Bd a (10 + ci, N) n h) (k : Bd a (10 + ci, N) n (sR h a f (some x)) → K (some (.ref a) :: some (.ref x) :: t) [] (sR h a f (some x))) : k_aload 0 (k_aload 1 (k_putR ci N f K)) (some (.ref a) :: some (.ref x) :: t) [] h := ⟨b.2.2.1, b.2.1, k b⟩
theorem r_ist (b : Bd a S n h) (hs : hS h x = (1, len)) (h9 : 9 ≤ x) (hi : vp_in i len) (hi2 : i.toNatClampNeg = i') (k : Bd a S n (sI h x i' v) → K ls (.ref x :: st) (sI h x i' v)) : k_dup (k_push (.int i) (k_push (.int v) (k_iastore K))) ls (.ref x :: st) h := by
  have k := k b
  show isC1 (.ref x) = true ∧ 9 ≤ x ∧ (hS h x).1 = 1 ∧ vp_in i (hS h x).2 ∧ K ls (.ref x :: st) (sI h x i.toNatClampNeg v)
  rw [hs, hi2]
  exact ⟨rfl, h9, rfl, hi, k⟩
theorem r_jst (b : Bd a S n h) (hs : hS h x = (2, len)) (h9 : 9 ≤ x) (hi : vp_in i len) (hi2 : i.toNatClampNeg = i') (k : Bd a S n (sJ h x i' j) → K ls (.ref x :: st) (sJ h x i' j)) : k_dup (k_push (.int i) (k_push (.long j) (k_lastore K))) ls (.ref x :: st) h := by
  have k := k b
  show isC1 (.ref x) = true ∧ 9 ≤ x ∧ (hS h x).1 = 2 ∧ vp_in i (hS h x).2 ∧ K ls (.ref x :: st) (sJ h x i.toNatClampNeg j)
  rw [hs, hi2]
  exact ⟨rfl, h9, rfl, hi, k⟩
theorem r_new (b : Bd a S n h) (k : Bd a S (n + 1) (nwA h n (10 + ci) N) → Bd n (10 + ci, N) (n + 1) (nwA h n (10 + ci) N) → K (some (.ref a) :: t) [.ref n, .ref n, .ref a] (nwA h n (10 + ci) N)) : k_aload 0 (k_new ci N (k_dup K)) (some (.ref a) :: t) [] h := by
  have k := k b.nwa b.own
  show isC1 (.ref (hN h)) = true ∧ K (some (.ref a) :: t) [.ref (hN h), .ref (hN h), .ref a] (nw h (10 + ci) N)
  rw [nw_A, b.1]
  exact ⟨rfl, k⟩
theorem r_new2 (b : Bd a S n h) (k : Bd a S (n + 1) (nwA h n (10 + ci) N) → Bd n (10 + ci, N) (n + 1) (nwA h n (10 + ci) N) → K ls (.ref n :: .ref n :: .int i :: .ref x :: .ref x :: st) (nwA h n (10 + ci) N)) : k_dup (k_push (.int i) (k_new ci N (k_dup K))) ls (.ref x :: st) h := by
  have k := k b.nwa b.own
  show isC1 (.ref x) = true ∧ isC1 (.ref (hN h)) = true ∧ K ls (.ref (hN h) :: .ref (hN h) :: .int i :: .ref x :: .ref x :: st) (nw h (10 + ci) N)
  rw [nw_A, b.1]
  exact ⟨rfl, rfl, k⟩
theorem r_call0 (hc : catS st ≤ 8) (hG : GoM l E Y' d' mc' ms' [.ref x] h (kont K ls st)) : k_callI l E Y' d' mc' ms' 0 K ls (.ref x :: st) h := ⟨hc, hG⟩
theorem r_call1 (hc : catS st ≤ 8) (hG : GoM l E Y' d' mc' ms' [.ref x, .ref y] h (kont K ls st)) : k_callI l E Y' d' mc' ms' 1 K ls (.ref y :: .ref x :: st) h := ⟨hc, hG⟩
theorem r_getc (b : Bd a (10 + ci, N) n h) (hr : rfT a f = some y) (hv : hR h a f = some y) (k : K (some (.ref a) :: t) (.ref y :: st) h) : k_aload 0 (k_getR ci N f K) (some (.ref a) :: t) st h := by
  show 9 ≤ a ∧ hS h a = (10 + ci, N) ∧ pR (rfT a f) (hR h a f) (fun v => K (some (.ref a) :: t) (v :: st) h)
  rw [hr]
  exact ⟨b.2.2.1, b.2.1, hv, k⟩
theorem r_aast (b : Bd a S n h) (hs : hS h y = (5, len)) (hx : hS h x = (17, 15)) (h9 : 9 ≤ y) (h9' : 9 ≤ x) (hi : vp_in i len) (hi2 : i.toNatClampNeg = i') (k : Bd a S n (sR h y i' (some x)) → K ls st (sR h y i' (some x))) : k_aastore 5 7 15 K ls (.ref x :: .int i :: .ref y :: st) h := by
  have k := k b
  show 9 ≤ y ∧ (hS h y).1 = 5 ∧ vp_in i (hS h y).2 ∧ 9 ≤ x ∧ hS h x = (10 + 7, 15) ∧ K ls st (sR h y i.toNatClampNeg (some x))
  rw [hs, hi2]
  exact ⟨h9, rfl, hi, h9', hx, k⟩
theorem r_geti (b : Bd a (10 + ci, N) n h) (hr : rfT a f = some x) (hv : hR h a f = some x) (hs : hS h x = (1, len)) (h9 : 9 ≤ x) (hi : vp_in i len) (hi2 : i.toNatClampNeg = i') (k : Bd a (10 + ci, N) n (sI h x i' v) → K (some (.ref a) :: t) [] (sI h x i' v)) : k_aload 0 (k_getR ci N f (k_push (.int i) (k_push (.int v) (k_iastore K)))) (some (.ref a) :: t) [] h := by
  have k := k b
  refine r_getc b hr hv ?_
  show 9 ≤ x ∧ (hS h x).1 = 1 ∧ vp_in i (hS h x).2 ∧ K (some (.ref a) :: t) [] (sI h x i.toNatClampNeg v)
  rw [hs, hi2]
  exact ⟨h9, rfl, hi, k⟩
end RW
def i7_10 (h : Hp) : Hp := sR (nwA (sR (nwA (sI (sR (nwA (sR (sI (sI (sI (nwA (sR (nwA (sR (sI (sI (sI (sI (sI (sI (sI (sI (nwA (sR (nwA (sR (nwA h 11 1 32) 10 2 (some 11)) 12 1 24) 10 3 (some 12)) 13 1 8) 13 0 (-1)) 13 1 (-1)) 13 2 (-1)) 13 3 (-1)) 13 4 (-1)) 13 5 (-1)) 13 6 (-1)) 13 7 (-1)) 10 4 (some 13)) 14 1 64) 10 5 (some 14)) 15 1 3) 15 0 1) 15 1 0) 15 2 0) 10 7 (some 15)) 16 4 6) 10 8 (some 16)) 10 10 (-1)) 17 1 28) 10 11 (some 17)) 18 1 8) 10 13 (some 18)
set_option maxRecDepth 100000 in
theorem hS_i7_10 (h : Hp) {b : Nat} (hb : b < 11) : hS (i7_10 h) b = hS h b := by
  unfold i7_10
  simp (disch := omega) only [hS_nwN, qS_sR, qS_sI, qS_sJ]
theorem bd_i7_10 {h : Hp} {a : Nat} {S : Nat × Nat} (b : Bd a S 11 h) : Bd a S 19 (i7_10 h) := ⟨rfl, (hS_i7_10 h b.2.2.2).trans b.2.1, b.2.2.1, Nat.lt_of_lt_of_le b.2.2.2 (by decide)⟩
set_option maxRecDepth 100000 in
theorem c_i7_10 {l : Launch} {E : Ev} {d : Nat} {Q : Option Value → Hp → Prop} {h : Hp} (b : Bd 10 (17, 15) 11 h) (hQ : Q none (i7_10 h)) : GoM l E YX7_init (d + 1) 8 173 [.ref 10] h Q := by
  refine eX7_init (gX7_init_0 ?_)
  unfold bX7_init_0
  refine r_obj ?_
  refine r_arr (z' := 32) b (by decide) (by decide) (by decide) fun b => ?_
  refine r_put b fun b => ?_
  refine r_arr (z' := 24) b (by decide) (by decide) (by decide) fun b => ?_
  refine r_put b fun b => ?_
  refine r_arr (z' := 8) b (by decide) (by decide) (by decide) fun b => ?_
  refine r_ist (len := 8) (i' := 0) b rfl (by decide) (vin_dec (by decide)) (by decide) fun b => ?_
  refine r_ist (len := 8) (i' := 1) b rfl (by decide) (vin_dec (by decide)) (by decide) fun b => ?_
  refine r_ist (len := 8) (i' := 2) b rfl (by decide) (vin_dec (by decide)) (by decide) fun b => ?_
  refine r_ist (len := 8) (i' := 3) b rfl (by decide) (vin_dec (by decide)) (by decide) fun b => ?_
  refine r_ist (len := 8) (i' := 4) b rfl (by decide) (vin_dec (by decide)) (by decide) fun b => ?_
  refine r_ist (len := 8) (i' := 5) b rfl (by decide) (vin_dec (by decide)) (by decide) fun b => ?_
  refine r_ist (len := 8) (i' := 6) b rfl (by decide) (vin_dec (by decide)) (by decide) fun b => ?_
  refine r_ist (len := 8) (i' := 7) b rfl (by decide) (vin_dec (by decide)) (by decide) fun b => ?_
  refine r_put b fun b => ?_
  refine r_arr (z' := 64) b (by decide) (by decide) (by decide) fun b => ?_
  refine r_put b fun b => ?_
  refine r_arr (z' := 3) b (by decide) (by decide) (by decide) fun b => ?_
  refine r_ist (len := 3) (i' := 0) b rfl (by decide) (vin_dec (by decide)) (by decide) fun b => ?_
  refine r_ist (len := 3) (i' := 1) b rfl (by decide) (vin_dec (by decide)) (by decide) fun b => ?_
  refine r_ist (len := 3) (i' := 2) b rfl (by decide) (vin_dec (by decide)) (by decide) fun b => ?_
  refine r_put b fun b => ?_
  refine r_anw (z' := 6) b (by decide) (by decide) (by decide) fun b => ?_
  refine r_put b fun b => ?_
  refine r_puti b fun b => ?_
  refine r_arr (z' := 28) b (by decide) (by decide) (by decide) fun b => ?_
  refine r_put b fun b => ?_
  refine r_arr (z' := 8) b (by decide) (by decide) (by decide) fun b => ?_
  refine r_put b fun b => ?_
  exact hQ
def i7_20 (h : Hp) : Hp := sR (nwA (sR (nwA (sI (sR (nwA (sR (sI (sI (sI (nwA (sR (nwA (sR (sI (sI (sI (sI (sI (sI (sI (sI (nwA (sR (nwA (sR (nwA h 21 1 32) 20 2 (some 21)) 22 1 24) 20 3 (some 22)) 23 1 8) 23 0 (-1)) 23 1 (-1)) 23 2 (-1)) 23 3 (-1)) 23 4 (-1)) 23 5 (-1)) 23 6 (-1)) 23 7 (-1)) 20 4 (some 23)) 24 1 64) 20 5 (some 24)) 25 1 3) 25 0 1) 25 1 0) 25 2 0) 20 7 (some 25)) 26 4 6) 20 8 (some 26)) 20 10 (-1)) 27 1 28) 20 11 (some 27)) 28 1 8) 20 13 (some 28)
set_option maxRecDepth 100000 in
theorem hS_i7_20 (h : Hp) {b : Nat} (hb : b < 21) : hS (i7_20 h) b = hS h b := by
  unfold i7_20
  simp (disch := omega) only [hS_nwN, qS_sR, qS_sI, qS_sJ]
theorem bd_i7_20 {h : Hp} {a : Nat} {S : Nat × Nat} (b : Bd a S 21 h) : Bd a S 29 (i7_20 h) := ⟨rfl, (hS_i7_20 h b.2.2.2).trans b.2.1, b.2.2.1, Nat.lt_of_lt_of_le b.2.2.2 (by decide)⟩
set_option maxRecDepth 100000 in
theorem c_i7_20 {l : Launch} {E : Ev} {d : Nat} {Q : Option Value → Hp → Prop} {h : Hp} (b : Bd 20 (17, 15) 21 h) (hQ : Q none (i7_20 h)) : GoM l E YX7_init (d + 1) 8 173 [.ref 20] h Q := by
  refine eX7_init (gX7_init_0 ?_)
  unfold bX7_init_0
  refine r_obj ?_
  refine r_arr (z' := 32) b (by decide) (by decide) (by decide) fun b => ?_
  refine r_put b fun b => ?_
  refine r_arr (z' := 24) b (by decide) (by decide) (by decide) fun b => ?_
  refine r_put b fun b => ?_
  refine r_arr (z' := 8) b (by decide) (by decide) (by decide) fun b => ?_
  refine r_ist (len := 8) (i' := 0) b rfl (by decide) (vin_dec (by decide)) (by decide) fun b => ?_
  refine r_ist (len := 8) (i' := 1) b rfl (by decide) (vin_dec (by decide)) (by decide) fun b => ?_
  refine r_ist (len := 8) (i' := 2) b rfl (by decide) (vin_dec (by decide)) (by decide) fun b => ?_
  refine r_ist (len := 8) (i' := 3) b rfl (by decide) (vin_dec (by decide)) (by decide) fun b => ?_
  refine r_ist (len := 8) (i' := 4) b rfl (by decide) (vin_dec (by decide)) (by decide) fun b => ?_
  refine r_ist (len := 8) (i' := 5) b rfl (by decide) (vin_dec (by decide)) (by decide) fun b => ?_
  refine r_ist (len := 8) (i' := 6) b rfl (by decide) (vin_dec (by decide)) (by decide) fun b => ?_
  refine r_ist (len := 8) (i' := 7) b rfl (by decide) (vin_dec (by decide)) (by decide) fun b => ?_
  refine r_put b fun b => ?_
  refine r_arr (z' := 64) b (by decide) (by decide) (by decide) fun b => ?_
  refine r_put b fun b => ?_
  refine r_arr (z' := 3) b (by decide) (by decide) (by decide) fun b => ?_
  refine r_ist (len := 3) (i' := 0) b rfl (by decide) (vin_dec (by decide)) (by decide) fun b => ?_
  refine r_ist (len := 3) (i' := 1) b rfl (by decide) (vin_dec (by decide)) (by decide) fun b => ?_
  refine r_ist (len := 3) (i' := 2) b rfl (by decide) (vin_dec (by decide)) (by decide) fun b => ?_
  refine r_put b fun b => ?_
  refine r_anw (z' := 6) b (by decide) (by decide) (by decide) fun b => ?_
  refine r_put b fun b => ?_
  refine r_puti b fun b => ?_
  refine r_arr (z' := 28) b (by decide) (by decide) (by decide) fun b => ?_
  refine r_put b fun b => ?_
  refine r_arr (z' := 8) b (by decide) (by decide) (by decide) fun b => ?_
  refine r_put b fun b => ?_
  exact hQ
def i7_29 (h : Hp) : Hp := sR (nwA (sR (nwA (sI (sR (nwA (sR (sI (sI (sI (nwA (sR (nwA (sR (sI (sI (sI (sI (sI (sI (sI (sI (nwA (sR (nwA (sR (nwA h 30 1 32) 29 2 (some 30)) 31 1 24) 29 3 (some 31)) 32 1 8) 32 0 (-1)) 32 1 (-1)) 32 2 (-1)) 32 3 (-1)) 32 4 (-1)) 32 5 (-1)) 32 6 (-1)) 32 7 (-1)) 29 4 (some 32)) 33 1 64) 29 5 (some 33)) 34 1 3) 34 0 1) 34 1 0) 34 2 0) 29 7 (some 34)) 35 4 6) 29 8 (some 35)) 29 10 (-1)) 36 1 28) 29 11 (some 36)) 37 1 8) 29 13 (some 37)
set_option maxRecDepth 100000 in
theorem hS_i7_29 (h : Hp) {b : Nat} (hb : b < 30) : hS (i7_29 h) b = hS h b := by
  unfold i7_29
  simp (disch := omega) only [hS_nwN, qS_sR, qS_sI, qS_sJ]
theorem bd_i7_29 {h : Hp} {a : Nat} {S : Nat × Nat} (b : Bd a S 30 h) : Bd a S 38 (i7_29 h) := ⟨rfl, (hS_i7_29 h b.2.2.2).trans b.2.1, b.2.2.1, Nat.lt_of_lt_of_le b.2.2.2 (by decide)⟩
set_option maxRecDepth 100000 in
theorem c_i7_29 {l : Launch} {E : Ev} {d : Nat} {Q : Option Value → Hp → Prop} {h : Hp} (b : Bd 29 (17, 15) 30 h) (hQ : Q none (i7_29 h)) : GoM l E YX7_init (d + 1) 8 173 [.ref 29] h Q := by
  refine eX7_init (gX7_init_0 ?_)
  unfold bX7_init_0
  refine r_obj ?_
  refine r_arr (z' := 32) b (by decide) (by decide) (by decide) fun b => ?_
  refine r_put b fun b => ?_
  refine r_arr (z' := 24) b (by decide) (by decide) (by decide) fun b => ?_
  refine r_put b fun b => ?_
  refine r_arr (z' := 8) b (by decide) (by decide) (by decide) fun b => ?_
  refine r_ist (len := 8) (i' := 0) b rfl (by decide) (vin_dec (by decide)) (by decide) fun b => ?_
  refine r_ist (len := 8) (i' := 1) b rfl (by decide) (vin_dec (by decide)) (by decide) fun b => ?_
  refine r_ist (len := 8) (i' := 2) b rfl (by decide) (vin_dec (by decide)) (by decide) fun b => ?_
  refine r_ist (len := 8) (i' := 3) b rfl (by decide) (vin_dec (by decide)) (by decide) fun b => ?_
  refine r_ist (len := 8) (i' := 4) b rfl (by decide) (vin_dec (by decide)) (by decide) fun b => ?_
  refine r_ist (len := 8) (i' := 5) b rfl (by decide) (vin_dec (by decide)) (by decide) fun b => ?_
  refine r_ist (len := 8) (i' := 6) b rfl (by decide) (vin_dec (by decide)) (by decide) fun b => ?_
  refine r_ist (len := 8) (i' := 7) b rfl (by decide) (vin_dec (by decide)) (by decide) fun b => ?_
  refine r_put b fun b => ?_
  refine r_arr (z' := 64) b (by decide) (by decide) (by decide) fun b => ?_
  refine r_put b fun b => ?_
  refine r_arr (z' := 3) b (by decide) (by decide) (by decide) fun b => ?_
  refine r_ist (len := 3) (i' := 0) b rfl (by decide) (vin_dec (by decide)) (by decide) fun b => ?_
  refine r_ist (len := 3) (i' := 1) b rfl (by decide) (vin_dec (by decide)) (by decide) fun b => ?_
  refine r_ist (len := 3) (i' := 2) b rfl (by decide) (vin_dec (by decide)) (by decide) fun b => ?_
  refine r_put b fun b => ?_
  refine r_anw (z' := 6) b (by decide) (by decide) (by decide) fun b => ?_
  refine r_put b fun b => ?_
  refine r_puti b fun b => ?_
  refine r_arr (z' := 28) b (by decide) (by decide) (by decide) fun b => ?_
  refine r_put b fun b => ?_
  refine r_arr (z' := 8) b (by decide) (by decide) (by decide) fun b => ?_
  refine r_put b fun b => ?_
  exact hQ
def i5_40 (h : Hp) : Hp := sI (sR (nwA (sR (nwA (sR (nwA (sR (nwA (sR (nwA (sR (nwA h 41 1 401) 40 0 (some 41)) 42 1 401) 40 1 (some 42)) 43 1 401) 40 2 (some 43)) 44 1 400) 40 5 (some 44)) 45 1 12) 40 7 (some 45)) 46 1 25) 40 8 (some 46)) 40 11 (-1)
set_option maxRecDepth 100000 in
theorem hS_i5_40 (h : Hp) {b : Nat} (hb : b < 41) : hS (i5_40 h) b = hS h b := by
  unfold i5_40
  simp (disch := omega) only [hS_nwN, qS_sR, qS_sI, qS_sJ]
theorem bd_i5_40 {h : Hp} {a : Nat} {S : Nat × Nat} (b : Bd a S 41 h) : Bd a S 47 (i5_40 h) := ⟨rfl, (hS_i5_40 h b.2.2.2).trans b.2.1, b.2.2.1, Nat.lt_of_lt_of_le b.2.2.2 (by decide)⟩
set_option maxRecDepth 100000 in
theorem c_i5_40 {l : Launch} {E : Ev} {d : Nat} {Q : Option Value → Hp → Prop} {h : Hp} (b : Bd 40 (15, 12) 41 h) (hQ : Q none (i5_40 h)) : GoM l E YX5_init (d + 1) 6 1640 [.ref 40] h Q := by
  refine eX5_init (gX5_init_0 ?_)
  unfold bX5_init_0
  refine r_obj ?_
  refine r_arr (z' := 401) b (by decide) (by decide) (by decide) fun b => ?_
  refine r_put b fun b => ?_
  refine r_arr (z' := 401) b (by decide) (by decide) (by decide) fun b => ?_
  refine r_put b fun b => ?_
  refine r_arr (z' := 401) b (by decide) (by decide) (by decide) fun b => ?_
  refine r_put b fun b => ?_
  refine r_arr (z' := 400) b (by decide) (by decide) (by decide) fun b => ?_
  refine r_put b fun b => ?_
  refine r_arr (z' := 12) b (by decide) (by decide) (by decide) fun b => ?_
  refine r_put b fun b => ?_
  refine r_arr (z' := 25) b (by decide) (by decide) (by decide) fun b => ?_
  refine r_put b fun b => ?_
  refine r_puti b fun b => ?_
  exact hQ
def i0_48 (h : Hp) : Hp := sR (nwA (sR (nwA (sR (nwA (sR (nwA (sR (nwA h 49 1 8) 48 2 (some 49)) 50 1 64) 48 3 (some 50)) 51 1 8) 48 4 (some 51)) 52 1 10) 48 5 (some 52)) 53 1 32) 48 6 (some 53)
set_option maxRecDepth 100000 in
theorem hS_i0_48 (h : Hp) {b : Nat} (hb : b < 49) : hS (i0_48 h) b = hS h b := by
  unfold i0_48
  simp (disch := omega) only [hS_nwN, qS_sR, qS_sI, qS_sJ]
theorem bd_i0_48 {h : Hp} {a : Nat} {S : Nat × Nat} (b : Bd a S 49 h) : Bd a S 54 (i0_48 h) := ⟨rfl, (hS_i0_48 h b.2.2.2).trans b.2.1, b.2.2.1, Nat.lt_of_lt_of_le b.2.2.2 (by decide)⟩
set_option maxRecDepth 100000 in
theorem c_i0_48 {l : Launch} {E : Ev} {d : Nat} {Q : Option Value → Hp → Prop} {h : Hp} (b : Bd 48 (10, 7) 49 h) (hQ : Q none (i0_48 h)) : GoM l E YX0_init (d + 1) 5 122 [.ref 48] h Q := by
  refine eX0_init (gX0_init_0 ?_)
  unfold bX0_init_0
  refine r_obj ?_
  refine r_arr (z' := 8) b (by decide) (by decide) (by decide) fun b => ?_
  refine r_put b fun b => ?_
  refine r_arr (z' := 64) b (by decide) (by decide) (by decide) fun b => ?_
  refine r_put b fun b => ?_
  refine r_arr (z' := 8) b (by decide) (by decide) (by decide) fun b => ?_
  refine r_put b fun b => ?_
  refine r_arr (z' := 10) b (by decide) (by decide) (by decide) fun b => ?_
  refine r_put b fun b => ?_
  refine r_arr (z' := 32) b (by decide) (by decide) (by decide) fun b => ?_
  refine r_put b fun b => ?_
  exact hQ
def i0_54 (h : Hp) : Hp := sR (nwA (sR (nwA (sR (nwA (sR (nwA (sR (nwA h 55 1 8) 54 2 (some 55)) 56 1 64) 54 3 (some 56)) 57 1 8) 54 4 (some 57)) 58 1 10) 54 5 (some 58)) 59 1 32) 54 6 (some 59)
set_option maxRecDepth 100000 in
theorem hS_i0_54 (h : Hp) {b : Nat} (hb : b < 55) : hS (i0_54 h) b = hS h b := by
  unfold i0_54
  simp (disch := omega) only [hS_nwN, qS_sR, qS_sI, qS_sJ]
theorem bd_i0_54 {h : Hp} {a : Nat} {S : Nat × Nat} (b : Bd a S 55 h) : Bd a S 60 (i0_54 h) := ⟨rfl, (hS_i0_54 h b.2.2.2).trans b.2.1, b.2.2.1, Nat.lt_of_lt_of_le b.2.2.2 (by decide)⟩
set_option maxRecDepth 100000 in
theorem c_i0_54 {l : Launch} {E : Ev} {d : Nat} {Q : Option Value → Hp → Prop} {h : Hp} (b : Bd 54 (10, 7) 55 h) (hQ : Q none (i0_54 h)) : GoM l E YX0_init (d + 1) 5 122 [.ref 54] h Q := by
  refine eX0_init (gX0_init_0 ?_)
  unfold bX0_init_0
  refine r_obj ?_
  refine r_arr (z' := 8) b (by decide) (by decide) (by decide) fun b => ?_
  refine r_put b fun b => ?_
  refine r_arr (z' := 64) b (by decide) (by decide) (by decide) fun b => ?_
  refine r_put b fun b => ?_
  refine r_arr (z' := 8) b (by decide) (by decide) (by decide) fun b => ?_
  refine r_put b fun b => ?_
  refine r_arr (z' := 10) b (by decide) (by decide) (by decide) fun b => ?_
  refine r_put b fun b => ?_
  refine r_arr (z' := 32) b (by decide) (by decide) (by decide) fun b => ?_
  refine r_put b fun b => ?_
  exact hQ
def i3_60 (h : Hp) : Hp := sR (sI (sR (nwA (sR (nwA (sR (nwA h 61 2 2304) 60 0 (some 61)) 62 1 8) 60 5 (some 62)) 63 1 8) 60 8 (some 63)) 60 9 (-1)) 60 2 (some 48)
set_option maxRecDepth 100000 in
theorem hS_i3_60 (h : Hp) {b : Nat} (hb : b < 61) : hS (i3_60 h) b = hS h b := by
  unfold i3_60
  simp (disch := omega) only [hS_nwN, qS_sR, qS_sI, qS_sJ]
theorem bd_i3_60 {h : Hp} {a : Nat} {S : Nat × Nat} (b : Bd a S 61 h) : Bd a S 64 (i3_60 h) := ⟨rfl, (hS_i3_60 h b.2.2.2).trans b.2.1, b.2.2.1, Nat.lt_of_lt_of_le b.2.2.2 (by decide)⟩
set_option maxRecDepth 100000 in
theorem c_i3_60 {l : Launch} {E : Ev} {d : Nat} {Q : Option Value → Hp → Prop} {h : Hp} (b : Bd 60 (13, 10) 61 h) (hQ : Q none (i3_60 h)) : GoM l E YX3_init (d + 1) 3 2320 [.ref 60, .ref 48] h Q := by
  refine eX3_init (gX3_init_0 ?_)
  unfold bX3_init_0
  refine r_obj ?_
  refine r_arr (z' := 2304) b (by decide) (by decide) (by decide) fun b => ?_
  refine r_put b fun b => ?_
  refine r_arr (z' := 8) b (by decide) (by decide) (by decide) fun b => ?_
  refine r_put b fun b => ?_
  refine r_arr (z' := 8) b (by decide) (by decide) (by decide) fun b => ?_
  refine r_put b fun b => ?_
  refine r_puti b fun b => ?_
  refine r_put1 b fun b => ?_
  exact hQ
def i1_64 (h : Hp) : Hp := sR (sR (nwA (sR (nwA (sR (nwA (sR (nwA h 65 2 36) 64 0 (some 65)) 66 2 4) 64 1 (some 66)) 67 2 4) 64 2 (some 67)) 68 3 256) 64 5 (some 68)) 64 3 (some 48)
set_option maxRecDepth 100000 in
theorem hS_i1_64 (h : Hp) {b : Nat} (hb : b < 65) : hS (i1_64 h) b = hS h b := by
  unfold i1_64
  simp (disch := omega) only [hS_nwN, qS_sR, qS_sI, qS_sJ]
theorem bd_i1_64 {h : Hp} {a : Nat} {S : Nat × Nat} (b : Bd a S 65 h) : Bd a S 69 (i1_64 h) := ⟨rfl, (hS_i1_64 h b.2.2.2).trans b.2.1, b.2.2.1, Nat.lt_of_lt_of_le b.2.2.2 (by decide)⟩
set_option maxRecDepth 100000 in
theorem c_i1_64 {l : Launch} {E : Ev} {d : Nat} {Q : Option Value → Hp → Prop} {h : Hp} (b : Bd 64 (11, 7) 65 h) (hQ : Q none (i1_64 h)) : GoM l E YX1_init (d + 1) 4 300 [.ref 64, .ref 48] h Q := by
  refine eX1_init (gX1_init_0 ?_)
  unfold bX1_init_0
  refine r_obj ?_
  refine r_arr (z' := 36) b (by decide) (by decide) (by decide) fun b => ?_
  refine r_put b fun b => ?_
  refine r_arr (z' := 4) b (by decide) (by decide) (by decide) fun b => ?_
  refine r_put b fun b => ?_
  refine r_arr (z' := 4) b (by decide) (by decide) (by decide) fun b => ?_
  refine r_put b fun b => ?_
  refine r_arr (z' := 256) b (by decide) (by decide) (by decide) fun b => ?_
  refine r_put b fun b => ?_
  refine r_put1 b fun b => ?_
  exact hQ
def i4_69 (h : Hp) : Hp := sR (nwA (sR (nwA (sR (nwA (sR (nwA h 70 3 512) 69 0 (some 70)) 71 1 128) 69 1 (some 71)) 72 1 64) 69 2 (some 72)) 73 1 8) 69 3 (some 73)
set_option maxRecDepth 100000 in
theorem hS_i4_69 (h : Hp) {b : Nat} (hb : b < 70) : hS (i4_69 h) b = hS h b := by
  unfold i4_69
  simp (disch := omega) only [hS_nwN, qS_sR, qS_sI, qS_sJ]
theorem bd_i4_69 {h : Hp} {a : Nat} {S : Nat × Nat} (b : Bd a S 70 h) : Bd a S 74 (i4_69 h) := ⟨rfl, (hS_i4_69 h b.2.2.2).trans b.2.1, b.2.2.1, Nat.lt_of_lt_of_le b.2.2.2 (by decide)⟩
set_option maxRecDepth 100000 in
theorem c_i4_69 {l : Launch} {E : Ev} {d : Nat} {Q : Option Value → Hp → Prop} {h : Hp} (b : Bd 69 (14, 5) 70 h) (hQ : Q none (i4_69 h)) : GoM l E YX4_init (d + 1) 4 712 [.ref 69] h Q := by
  refine eX4_init (gX4_init_0 ?_)
  unfold bX4_init_0
  refine r_obj ?_
  refine r_arr (z' := 512) b (by decide) (by decide) (by decide) fun b => ?_
  refine r_put b fun b => ?_
  refine r_arr (z' := 128) b (by decide) (by decide) (by decide) fun b => ?_
  refine r_put b fun b => ?_
  refine r_arr (z' := 64) b (by decide) (by decide) (by decide) fun b => ?_
  refine r_put b fun b => ?_
  refine r_arr (z' := 8) b (by decide) (by decide) (by decide) fun b => ?_
  refine r_put b fun b => ?_
  exact hQ
def i6_74 (h : Hp) : Hp := sR (nwA (sR (nwA (sR (nwA h 75 1 40) 74 3 (some 75)) 76 2 40) 74 4 (some 76)) 77 1 64) 74 5 (some 77)
set_option maxRecDepth 100000 in
theorem hS_i6_74 (h : Hp) {b : Nat} (hb : b < 75) : hS (i6_74 h) b = hS h b := by
  unfold i6_74
  simp (disch := omega) only [hS_nwN, qS_sR, qS_sI, qS_sJ]
theorem bd_i6_74 {h : Hp} {a : Nat} {S : Nat × Nat} (b : Bd a S 75 h) : Bd a S 78 (i6_74 h) := ⟨rfl, (hS_i6_74 h b.2.2.2).trans b.2.1, b.2.2.1, Nat.lt_of_lt_of_le b.2.2.2 (by decide)⟩
set_option maxRecDepth 100000 in
theorem c_i6_74 {l : Launch} {E : Ev} {d : Nat} {Q : Option Value → Hp → Prop} {h : Hp} (b : Bd 74 (16, 7) 75 h) (hQ : Q none (i6_74 h)) : GoM l E YX6_init (d + 1) 3 144 [.ref 74] h Q := by
  refine eX6_init (gX6_init_0 ?_)
  unfold bX6_init_0
  refine r_obj ?_
  refine r_arr (z' := 40) b (by decide) (by decide) (by decide) fun b => ?_
  refine r_put b fun b => ?_
  refine r_arr (z' := 40) b (by decide) (by decide) (by decide) fun b => ?_
  refine r_put b fun b => ?_
  refine r_arr (z' := 64) b (by decide) (by decide) (by decide) fun b => ?_
  refine r_put b fun b => ?_
  exact hQ
def i8_9 (h : Hp) : Hp := sR (nwA (sR (i6_74 (nwA (sR (i4_69 (nwA (sR (i1_64 (nwA (sR (i3_60 (nwA (sR (i0_54 (nwA (sR (i0_48 (nwA (sR (nwA (sI (sR (i5_40 (nwA (sR (nwA (sR (nwA (sR (sR (i7_29 (nwA (sR (i7_20 (nwA (nwA (sR (i7_10 (nwA h 10 17 15)) 9 0 (some 10)) 19 5 2) 20 17 15)) 19 0 (some 20)) 29 17 15)) 19 1 (some 29)) 9 1 (some 19)) 38 3 2) 9 2 (some 38)) 39 1 400) 9 3 (some 39)) 40 15 12)) 9 5 (some 40)) 9 6 (-1)) 47 1 5) 9 8 (some 47)) 48 10 7)) 9 11 (some 48)) 54 10 7)) 9 12 (some 54)) 60 13 10)) 9 13 (some 60)) 64 11 7)) 9 14 (some 64)) 69 14 5)) 9 15 (some 69)) 74 16 7)) 9 16 (some 74)) 78 1 8) 9 17 (some 78)
set_option maxRecDepth 100000 in
theorem hS_i8_9 (h : Hp) {b : Nat} (hb : b < 10) : hS (i8_9 h) b = hS h b := by
  unfold i8_9
  simp (disch := omega) only [hS_nwN, qS_sR, qS_sI, qS_sJ, hS_i7_10, hS_i7_20, hS_i7_29, hS_i5_40, hS_i0_48, hS_i0_54, hS_i3_60, hS_i1_64, hS_i4_69, hS_i6_74]
theorem bd_i8_9 {h : Hp} {a : Nat} {S : Nat × Nat} (b : Bd a S 10 h) : Bd a S 79 (i8_9 h) := ⟨rfl, (hS_i8_9 h b.2.2.2).trans b.2.1, b.2.2.1, Nat.lt_of_lt_of_le b.2.2.2 (by decide)⟩
set_option maxRecDepth 100000 in
theorem c_i8_9 {l : Launch} {E : Ev} {d : Nat} {Q : Option Value → Hp → Prop} {h : Hp} (b : Bd 9 (18, 19) 10 h) (hQ : Q none (i8_9 h)) : GoM l E YX8_init (d + 2) 69 6396 [.ref 9] h Q := by
  refine eX8_init (gX8_init_0 ?_)
  unfold bX8_init_0
  refine r_obj ?_
  refine r_new b fun b bn => ?_
  refine r_call0 (by decide) (c_i7_10 bn (kont_in ?_))
  replace b := bd_i7_10 b
  refine r_put b fun b => ?_
  refine r_anw (z' := 2) b (by decide) (by decide) (by decide) fun b => ?_
  refine r_new2 b fun b bn => ?_
  refine r_call0 (by decide) (c_i7_20 bn (kont_in ?_))
  replace b := bd_i7_20 b
  refine r_aast (i' := 0) b rfl rfl (by decide) (by decide) (vin_dec (by decide)) (by decide) fun b => ?_
  refine r_new2 b fun b bn => ?_
  refine r_call0 (by decide) (c_i7_29 bn (kont_in ?_))
  replace b := bd_i7_29 b
  refine r_aast (i' := 1) b rfl rfl (by decide) (by decide) (vin_dec (by decide)) (by decide) fun b => ?_
  refine r_put b fun b => ?_
  refine r_arr (z' := 2) b (by decide) (by decide) (by decide) fun b => ?_
  refine r_put b fun b => ?_
  refine r_arr (z' := 400) b (by decide) (by decide) (by decide) fun b => ?_
  refine r_put b fun b => ?_
  refine r_new b fun b bn => ?_
  refine r_call0 (by decide) (c_i5_40 bn (kont_in ?_))
  replace b := bd_i5_40 b
  refine r_put b fun b => ?_
  refine r_puti b fun b => ?_
  refine r_arr (z' := 5) b (by decide) (by decide) (by decide) fun b => ?_
  refine r_put b fun b => ?_
  refine r_new b fun b bn => ?_
  refine r_call0 (by decide) (c_i0_48 bn (kont_in ?_))
  replace b := bd_i0_48 b
  refine r_put b fun b => ?_
  refine r_new b fun b bn => ?_
  refine r_call0 (by decide) (c_i0_54 bn (kont_in ?_))
  replace b := bd_i0_54 b
  refine r_put b fun b => ?_
  refine r_new b fun b bn => ?_
  refine r_getc b rfl rfl ?_
  refine r_call1 (by decide) (c_i3_60 bn (kont_in ?_))
  replace b := bd_i3_60 b
  refine r_put b fun b => ?_
  refine r_new b fun b bn => ?_
  refine r_getc b rfl rfl ?_
  refine r_call1 (by decide) (c_i1_64 bn (kont_in ?_))
  replace b := bd_i1_64 b
  refine r_put b fun b => ?_
  refine r_new b fun b bn => ?_
  refine r_call0 (by decide) (c_i4_69 bn (kont_in ?_))
  replace b := bd_i4_69 b
  refine r_put b fun b => ?_
  refine r_new b fun b bn => ?_
  refine r_call0 (by decide) (c_i6_74 bn (kont_in ?_))
  replace b := bd_i6_74 b
  refine r_put b fun b => ?_
  refine r_arr (z' := 8) b (by decide) (by decide) (by decide) fun b => ?_
  refine r_put b fun b => ?_
  exact hQ
def i9_79 (h : Hp) : Hp := sI (sI (sR (nwA (sR (nwA (sR (nwA (sR (nwA (sR (nwA (sR (nwA (sR (nwA (sR (nwA (sR (nwA (sR (nwA (sR (nwA (sR (nwA (sR (nwA (sR (nwA (sR (sJ (sJ (sJ (sJ (nwA (sR (sJ (sJ (sJ (sJ (sJ (sJ (sJ (sJ (sJ (sJ (nwA (sR (nwA (sR (nwA (sR (nwA (sR (nwA (sR (nwA (sI (sR (nwA (sR (nwA (sR (nwA (sR (nwA (sR (nwA h 80 1 7) 79 2 (some 80)) 81 1 5580) 79 3 (some 81)) 82 1 11160) 79 4 (some 82)) 83 3 2) 79 5 (some 83)) 84 1 400) 79 7 (some 84)) 79 13 (-1)) 85 1 96) 79 16 (some 85)) 86 1 400) 79 18 (some 86)) 87 1 400) 79 19 (some 87)) 88 1 400) 79 21 (some 88)) 89 1 400) 79 22 (some 89)) 90 2 10) 90 0 1167858) 90 1 525908) 90 2 273980692) 90 3 113716) 90 4 24282707) 90 5 23569509) 90 6 638407) 90 7 12009203) 90 8 22664236) 90 9 758955) 79 25 (some 90)) 91 2 4) 91 0 114292) 91 1 6328499) 91 2 67155) 91 3 398995) 79 26 (some 91)) 92 2 13) 79 28 (some 92)) 93 2 400) 79 29 (some 93)) 94 1 64) 79 33 (some 94)) 95 3 64) 79 35 (some 95)) 96 1 64) 79 36 (some 96)) 97 1 256) 79 37 (some 97)) 98 1 256) 79 38 (some 98)) 99 1 256) 79 39 (some 99)) 100 1 8) 79 40 (some 100)) 101 1 8) 79 44 (some 101)) 102 3 65536) 79 45 (some 102)) 103 1 400) 79 49 (some 103)) 104 1 64) 79 50 (some 104)) 105 1 64) 79 51 (some 105)) 81 3 (-1)) 81 5 1
set_option maxRecDepth 100000 in
theorem hS_i9_79 (h : Hp) {b : Nat} (hb : b < 80) : hS (i9_79 h) b = hS h b := by
  unfold i9_79
  simp (disch := omega) only [hS_nwN, qS_sR, qS_sI, qS_sJ]
theorem bd_i9_79 {h : Hp} {a : Nat} {S : Nat × Nat} (b : Bd a S 80 h) : Bd a S 106 (i9_79 h) := ⟨rfl, (hS_i9_79 h b.2.2.2).trans b.2.1, b.2.2.1, Nat.lt_of_lt_of_le b.2.2.2 (by decide)⟩
set_option maxRecDepth 100000 in
theorem c_i9_79 {l : Launch} {E : Ev} {d : Nat} {Q : Option Value → Hp → Prop} {h : Hp} (b : Bd 79 (19, 55) 80 h) (hQ : Q none (i9_79 h)) : GoM l E YX9_init (d + 1) 26 86312 [.ref 79] h Q := by
  refine eX9_init (gX9_init_0 ?_)
  unfold bX9_init_0
  refine r_obj ?_
  refine r_arr (z' := 7) b (by decide) (by decide) (by decide) fun b => ?_
  refine r_put b fun b => ?_
  refine r_arr (z' := 5580) b (by decide) (by decide) (by decide) fun b => ?_
  refine r_put b fun b => ?_
  refine r_arr (z' := 11160) b (by decide) (by decide) (by decide) fun b => ?_
  refine r_put b fun b => ?_
  refine r_arr (z' := 2) b (by decide) (by decide) (by decide) fun b => ?_
  refine r_put b fun b => ?_
  refine r_arr (z' := 400) b (by decide) (by decide) (by decide) fun b => ?_
  refine r_put b fun b => ?_
  refine r_puti b fun b => ?_
  refine r_arr (z' := 96) b (by decide) (by decide) (by decide) fun b => ?_
  refine r_put b fun b => ?_
  refine r_arr (z' := 400) b (by decide) (by decide) (by decide) fun b => ?_
  refine r_put b fun b => ?_
  refine r_arr (z' := 400) b (by decide) (by decide) (by decide) fun b => ?_
  refine r_put b fun b => ?_
  refine r_arr (z' := 400) b (by decide) (by decide) (by decide) fun b => ?_
  refine r_put b fun b => ?_
  refine r_arr (z' := 400) b (by decide) (by decide) (by decide) fun b => ?_
  refine r_put b fun b => ?_
  refine r_arr (z' := 10) b (by decide) (by decide) (by decide) fun b => ?_
  refine r_jst (len := 10) (i' := 0) b rfl (by decide) (vin_dec (by decide)) (by decide) fun b => ?_
  refine r_jst (len := 10) (i' := 1) b rfl (by decide) (vin_dec (by decide)) (by decide) fun b => ?_
  refine r_jst (len := 10) (i' := 2) b rfl (by decide) (vin_dec (by decide)) (by decide) fun b => ?_
  refine r_jst (len := 10) (i' := 3) b rfl (by decide) (vin_dec (by decide)) (by decide) fun b => ?_
  refine r_jst (len := 10) (i' := 4) b rfl (by decide) (vin_dec (by decide)) (by decide) fun b => ?_
  refine r_jst (len := 10) (i' := 5) b rfl (by decide) (vin_dec (by decide)) (by decide) fun b => ?_
  refine r_jst (len := 10) (i' := 6) b rfl (by decide) (vin_dec (by decide)) (by decide) fun b => ?_
  refine r_jst (len := 10) (i' := 7) b rfl (by decide) (vin_dec (by decide)) (by decide) fun b => ?_
  refine r_jst (len := 10) (i' := 8) b rfl (by decide) (vin_dec (by decide)) (by decide) fun b => ?_
  refine r_jst (len := 10) (i' := 9) b rfl (by decide) (vin_dec (by decide)) (by decide) fun b => ?_
  refine r_put b fun b => ?_
  refine r_arr (z' := 4) b (by decide) (by decide) (by decide) fun b => ?_
  refine r_jst (len := 4) (i' := 0) b rfl (by decide) (vin_dec (by decide)) (by decide) fun b => ?_
  refine r_jst (len := 4) (i' := 1) b rfl (by decide) (vin_dec (by decide)) (by decide) fun b => ?_
  refine r_jst (len := 4) (i' := 2) b rfl (by decide) (vin_dec (by decide)) (by decide) fun b => ?_
  refine r_jst (len := 4) (i' := 3) b rfl (by decide) (vin_dec (by decide)) (by decide) fun b => ?_
  refine r_put b fun b => ?_
  refine r_arr (z' := 13) b (by decide) (by decide) (by decide) fun b => ?_
  refine r_put b fun b => ?_
  refine r_arr (z' := 400) b (by decide) (by decide) (by decide) fun b => ?_
  refine r_put b fun b => ?_
  refine r_arr (z' := 64) b (by decide) (by decide) (by decide) fun b => ?_
  refine r_put b fun b => ?_
  refine r_arr (z' := 64) b (by decide) (by decide) (by decide) fun b => ?_
  refine r_put b fun b => ?_
  refine r_arr (z' := 64) b (by decide) (by decide) (by decide) fun b => ?_
  refine r_put b fun b => ?_
  refine r_arr (z' := 256) b (by decide) (by decide) (by decide) fun b => ?_
  refine r_put b fun b => ?_
  refine r_arr (z' := 256) b (by decide) (by decide) (by decide) fun b => ?_
  refine r_put b fun b => ?_
  refine r_arr (z' := 256) b (by decide) (by decide) (by decide) fun b => ?_
  refine r_put b fun b => ?_
  refine r_arr (z' := 8) b (by decide) (by decide) (by decide) fun b => ?_
  refine r_put b fun b => ?_
  refine r_arr (z' := 8) b (by decide) (by decide) (by decide) fun b => ?_
  refine r_put b fun b => ?_
  refine r_arr (z' := 65536) b (by decide) (by decide) (by decide) fun b => ?_
  refine r_put b fun b => ?_
  refine r_arr (z' := 400) b (by decide) (by decide) (by decide) fun b => ?_
  refine r_put b fun b => ?_
  refine r_arr (z' := 64) b (by decide) (by decide) (by decide) fun b => ?_
  refine r_put b fun b => ?_
  refine r_arr (z' := 64) b (by decide) (by decide) (by decide) fun b => ?_
  refine r_put b fun b => ?_
  refine r_geti (x := 81) (len := 5580) (i' := 3) b rfl rfl rfl (by decide) (vin_dec (by decide)) (by decide) fun b => ?_
  refine r_geti (x := 81) (len := 5580) (i' := 5) b rfl rfl rfl (by decide) (vin_dec (by decide)) (by decide) fun b => ?_
  exact hQ
