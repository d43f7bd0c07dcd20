/-! literals -/
theorem vin_dec {i : Int32} {n : Nat} (h : decide (¬ (i < 0 ∨ n ≤ i.toNatClampNeg)) = true) : vp_in i n := by
  unfold vp_in
  exact of_decide_eq_true h
theorem vi_of {i : Int32} {k n : Nat} (h0 : ¬ i < 0) (hk : i.toNatClampNeg = k) (h : k < n) : vp_in i n = True := eq_true (fun q => q.elim h0 (fun q => by omega))
theorem cl_0 : (0 : Int32).toNatClampNeg = 0 := by decide
theorem vi_0 (n : Nat) (h : 0 < n) : vp_in 0 n = True := vi_of (by decide) cl_0 h
theorem cl_1 : (1 : Int32).toNatClampNeg = 1 := by decide
theorem vi_1 (n : Nat) (h : 1 < n) : vp_in 1 n = True := vi_of (by decide) cl_1 h
theorem cl_2 : (2 : Int32).toNatClampNeg = 2 := by decide
theorem vi_2 (n : Nat) (h : 2 < n) : vp_in 2 n = True := vi_of (by decide) cl_2 h
theorem cl_3 : (3 : Int32).toNatClampNeg = 3 := by decide
theorem vi_3 (n : Nat) (h : 3 < n) : vp_in 3 n = True := vi_of (by decide) cl_3 h
theorem cl_4 : (4 : Int32).toNatClampNeg = 4 := by decide
theorem vi_4 (n : Nat) (h : 4 < n) : vp_in 4 n = True := vi_of (by decide) cl_4 h
theorem cl_5 : (5 : Int32).toNatClampNeg = 5 := by decide
theorem vi_5 (n : Nat) (h : 5 < n) : vp_in 5 n = True := vi_of (by decide) cl_5 h
theorem cl_6 : (6 : Int32).toNatClampNeg = 6 := by decide
theorem vi_6 (n : Nat) (h : 6 < n) : vp_in 6 n = True := vi_of (by decide) cl_6 h
theorem cl_7 : (7 : Int32).toNatClampNeg = 7 := by decide
theorem vi_7 (n : Nat) (h : 7 < n) : vp_in 7 n = True := vi_of (by decide) cl_7 h
theorem cl_8 : (8 : Int32).toNatClampNeg = 8 := by decide
theorem vi_8 (n : Nat) (h : 8 < n) : vp_in 8 n = True := vi_of (by decide) cl_8 h
theorem cl_9 : (9 : Int32).toNatClampNeg = 9 := by decide
theorem vi_9 (n : Nat) (h : 9 < n) : vp_in 9 n = True := vi_of (by decide) cl_9 h
theorem cl_10 : (10 : Int32).toNatClampNeg = 10 := by decide
theorem vi_10 (n : Nat) (h : 10 < n) : vp_in 10 n = True := vi_of (by decide) cl_10 h
theorem cl_11 : (11 : Int32).toNatClampNeg = 11 := by decide
theorem vi_11 (n : Nat) (h : 11 < n) : vp_in 11 n = True := vi_of (by decide) cl_11 h
theorem cl_12 : (12 : Int32).toNatClampNeg = 12 := by decide
theorem vi_12 (n : Nat) (h : 12 < n) : vp_in 12 n = True := vi_of (by decide) cl_12 h
theorem cl_13 : (13 : Int32).toNatClampNeg = 13 := by decide
theorem vi_13 (n : Nat) (h : 13 < n) : vp_in 13 n = True := vi_of (by decide) cl_13 h
theorem cl_14 : (14 : Int32).toNatClampNeg = 14 := by decide
theorem vi_14 (n : Nat) (h : 14 < n) : vp_in 14 n = True := vi_of (by decide) cl_14 h
theorem cl_15 : (15 : Int32).toNatClampNeg = 15 := by decide
theorem vi_15 (n : Nat) (h : 15 < n) : vp_in 15 n = True := vi_of (by decide) cl_15 h
theorem cl_16 : (16 : Int32).toNatClampNeg = 16 := by decide
theorem vi_16 (n : Nat) (h : 16 < n) : vp_in 16 n = True := vi_of (by decide) cl_16 h
theorem cl_17 : (17 : Int32).toNatClampNeg = 17 := by decide
theorem vi_17 (n : Nat) (h : 17 < n) : vp_in 17 n = True := vi_of (by decide) cl_17 h
theorem cl_18 : (18 : Int32).toNatClampNeg = 18 := by decide
theorem vi_18 (n : Nat) (h : 18 < n) : vp_in 18 n = True := vi_of (by decide) cl_18 h
theorem cl_19 : (19 : Int32).toNatClampNeg = 19 := by decide
theorem vi_19 (n : Nat) (h : 19 < n) : vp_in 19 n = True := vi_of (by decide) cl_19 h
theorem cl_20 : (20 : Int32).toNatClampNeg = 20 := by decide
theorem vi_20 (n : Nat) (h : 20 < n) : vp_in 20 n = True := vi_of (by decide) cl_20 h
theorem cl_21 : (21 : Int32).toNatClampNeg = 21 := by decide
theorem vi_21 (n : Nat) (h : 21 < n) : vp_in 21 n = True := vi_of (by decide) cl_21 h
theorem cl_22 : (22 : Int32).toNatClampNeg = 22 := by decide
theorem vi_22 (n : Nat) (h : 22 < n) : vp_in 22 n = True := vi_of (by decide) cl_22 h
theorem cl_23 : (23 : Int32).toNatClampNeg = 23 := by decide
theorem vi_23 (n : Nat) (h : 23 < n) : vp_in 23 n = True := vi_of (by decide) cl_23 h
theorem cl_24 : (24 : Int32).toNatClampNeg = 24 := by decide
theorem vi_24 (n : Nat) (h : 24 < n) : vp_in 24 n = True := vi_of (by decide) cl_24 h
theorem cl_25 : (25 : Int32).toNatClampNeg = 25 := by decide
theorem vi_25 (n : Nat) (h : 25 < n) : vp_in 25 n = True := vi_of (by decide) cl_25 h
theorem cl_26 : (26 : Int32).toNatClampNeg = 26 := by decide
theorem vi_26 (n : Nat) (h : 26 < n) : vp_in 26 n = True := vi_of (by decide) cl_26 h
theorem cl_27 : (27 : Int32).toNatClampNeg = 27 := by decide
theorem vi_27 (n : Nat) (h : 27 < n) : vp_in 27 n = True := vi_of (by decide) cl_27 h
theorem cl_28 : (28 : Int32).toNatClampNeg = 28 := by decide
theorem vi_28 (n : Nat) (h : 28 < n) : vp_in 28 n = True := vi_of (by decide) cl_28 h
theorem cl_29 : (29 : Int32).toNatClampNeg = 29 := by decide
theorem vi_29 (n : Nat) (h : 29 < n) : vp_in 29 n = True := vi_of (by decide) cl_29 h
theorem cl_30 : (30 : Int32).toNatClampNeg = 30 := by decide
theorem vi_30 (n : Nat) (h : 30 < n) : vp_in 30 n = True := vi_of (by decide) cl_30 h
theorem cl_31 : (31 : Int32).toNatClampNeg = 31 := by decide
theorem vi_31 (n : Nat) (h : 31 < n) : vp_in 31 n = True := vi_of (by decide) cl_31 h
theorem cl_32 : (32 : Int32).toNatClampNeg = 32 := by decide
theorem vi_32 (n : Nat) (h : 32 < n) : vp_in 32 n = True := vi_of (by decide) cl_32 h
theorem cl_33 : (33 : Int32).toNatClampNeg = 33 := by decide
theorem vi_33 (n : Nat) (h : 33 < n) : vp_in 33 n = True := vi_of (by decide) cl_33 h
theorem cl_34 : (34 : Int32).toNatClampNeg = 34 := by decide
theorem vi_34 (n : Nat) (h : 34 < n) : vp_in 34 n = True := vi_of (by decide) cl_34 h
theorem cl_35 : (35 : Int32).toNatClampNeg = 35 := by decide
theorem vi_35 (n : Nat) (h : 35 < n) : vp_in 35 n = True := vi_of (by decide) cl_35 h
theorem cl_36 : (36 : Int32).toNatClampNeg = 36 := by decide
theorem vi_36 (n : Nat) (h : 36 < n) : vp_in 36 n = True := vi_of (by decide) cl_36 h
theorem cl_37 : (37 : Int32).toNatClampNeg = 37 := by decide
theorem vi_37 (n : Nat) (h : 37 < n) : vp_in 37 n = True := vi_of (by decide) cl_37 h
theorem cl_38 : (38 : Int32).toNatClampNeg = 38 := by decide
theorem vi_38 (n : Nat) (h : 38 < n) : vp_in 38 n = True := vi_of (by decide) cl_38 h
theorem cl_39 : (39 : Int32).toNatClampNeg = 39 := by decide
theorem vi_39 (n : Nat) (h : 39 < n) : vp_in 39 n = True := vi_of (by decide) cl_39 h
theorem cl_40 : (40 : Int32).toNatClampNeg = 40 := by decide
theorem vi_40 (n : Nat) (h : 40 < n) : vp_in 40 n = True := vi_of (by decide) cl_40 h
theorem cl_41 : (41 : Int32).toNatClampNeg = 41 := by decide
theorem vi_41 (n : Nat) (h : 41 < n) : vp_in 41 n = True := vi_of (by decide) cl_41 h
theorem cl_42 : (42 : Int32).toNatClampNeg = 42 := by decide
theorem vi_42 (n : Nat) (h : 42 < n) : vp_in 42 n = True := vi_of (by decide) cl_42 h
theorem cl_43 : (43 : Int32).toNatClampNeg = 43 := by decide
theorem vi_43 (n : Nat) (h : 43 < n) : vp_in 43 n = True := vi_of (by decide) cl_43 h
theorem cl_44 : (44 : Int32).toNatClampNeg = 44 := by decide
theorem vi_44 (n : Nat) (h : 44 < n) : vp_in 44 n = True := vi_of (by decide) cl_44 h
theorem cl_45 : (45 : Int32).toNatClampNeg = 45 := by decide
theorem vi_45 (n : Nat) (h : 45 < n) : vp_in 45 n = True := vi_of (by decide) cl_45 h
theorem cl_46 : (46 : Int32).toNatClampNeg = 46 := by decide
theorem vi_46 (n : Nat) (h : 46 < n) : vp_in 46 n = True := vi_of (by decide) cl_46 h
theorem cl_47 : (47 : Int32).toNatClampNeg = 47 := by decide
theorem vi_47 (n : Nat) (h : 47 < n) : vp_in 47 n = True := vi_of (by decide) cl_47 h
theorem cl_48 : (48 : Int32).toNatClampNeg = 48 := by decide
theorem vi_48 (n : Nat) (h : 48 < n) : vp_in 48 n = True := vi_of (by decide) cl_48 h
theorem cl_49 : (49 : Int32).toNatClampNeg = 49 := by decide
theorem vi_49 (n : Nat) (h : 49 < n) : vp_in 49 n = True := vi_of (by decide) cl_49 h
theorem cl_50 : (50 : Int32).toNatClampNeg = 50 := by decide
theorem vi_50 (n : Nat) (h : 50 < n) : vp_in 50 n = True := vi_of (by decide) cl_50 h
theorem cl_51 : (51 : Int32).toNatClampNeg = 51 := by decide
theorem vi_51 (n : Nat) (h : 51 < n) : vp_in 51 n = True := vi_of (by decide) cl_51 h
theorem cl_52 : (52 : Int32).toNatClampNeg = 52 := by decide
theorem vi_52 (n : Nat) (h : 52 < n) : vp_in 52 n = True := vi_of (by decide) cl_52 h
theorem cl_53 : (53 : Int32).toNatClampNeg = 53 := by decide
theorem vi_53 (n : Nat) (h : 53 < n) : vp_in 53 n = True := vi_of (by decide) cl_53 h
theorem cl_54 : (54 : Int32).toNatClampNeg = 54 := by decide
theorem vi_54 (n : Nat) (h : 54 < n) : vp_in 54 n = True := vi_of (by decide) cl_54 h
theorem cl_55 : (55 : Int32).toNatClampNeg = 55 := by decide
theorem vi_55 (n : Nat) (h : 55 < n) : vp_in 55 n = True := vi_of (by decide) cl_55 h
theorem cl_56 : (56 : Int32).toNatClampNeg = 56 := by decide
theorem vi_56 (n : Nat) (h : 56 < n) : vp_in 56 n = True := vi_of (by decide) cl_56 h
theorem cl_57 : (57 : Int32).toNatClampNeg = 57 := by decide
theorem vi_57 (n : Nat) (h : 57 < n) : vp_in 57 n = True := vi_of (by decide) cl_57 h
theorem cl_58 : (58 : Int32).toNatClampNeg = 58 := by decide
theorem vi_58 (n : Nat) (h : 58 < n) : vp_in 58 n = True := vi_of (by decide) cl_58 h
theorem cl_59 : (59 : Int32).toNatClampNeg = 59 := by decide
theorem vi_59 (n : Nat) (h : 59 < n) : vp_in 59 n = True := vi_of (by decide) cl_59 h
theorem cl_60 : (60 : Int32).toNatClampNeg = 60 := by decide
theorem vi_60 (n : Nat) (h : 60 < n) : vp_in 60 n = True := vi_of (by decide) cl_60 h
theorem cl_61 : (61 : Int32).toNatClampNeg = 61 := by decide
theorem vi_61 (n : Nat) (h : 61 < n) : vp_in 61 n = True := vi_of (by decide) cl_61 h
theorem cl_62 : (62 : Int32).toNatClampNeg = 62 := by decide
theorem vi_62 (n : Nat) (h : 62 < n) : vp_in 62 n = True := vi_of (by decide) cl_62 h
theorem cl_63 : (63 : Int32).toNatClampNeg = 63 := by decide
theorem vi_63 (n : Nat) (h : 63 < n) : vp_in 63 n = True := vi_of (by decide) cl_63 h
theorem cl_74 : (74 : Int32).toNatClampNeg = 74 := by decide
theorem vi_74 (n : Nat) (h : 74 < n) : vp_in 74 n = True := vi_of (by decide) cl_74 h
theorem cl_81 : (81 : Int32).toNatClampNeg = 81 := by decide
theorem vi_81 (n : Nat) (h : 81 < n) : vp_in 81 n = True := vi_of (by decide) cl_81 h
theorem cl_96 : (96 : Int32).toNatClampNeg = 96 := by decide
theorem vi_96 (n : Nat) (h : 96 < n) : vp_in 96 n = True := vi_of (by decide) cl_96 h
theorem cl_97 : (97 : Int32).toNatClampNeg = 97 := by decide
theorem vi_97 (n : Nat) (h : 97 < n) : vp_in 97 n = True := vi_of (by decide) cl_97 h
theorem cl_98 : (98 : Int32).toNatClampNeg = 98 := by decide
theorem vi_98 (n : Nat) (h : 98 < n) : vp_in 98 n = True := vi_of (by decide) cl_98 h
theorem cl_99 : (99 : Int32).toNatClampNeg = 99 := by decide
theorem vi_99 (n : Nat) (h : 99 < n) : vp_in 99 n = True := vi_of (by decide) cl_99 h
theorem cl_100 : (100 : Int32).toNatClampNeg = 100 := by decide
theorem vi_100 (n : Nat) (h : 100 < n) : vp_in 100 n = True := vi_of (by decide) cl_100 h
theorem cl_127 : (127 : Int32).toNatClampNeg = 127 := by decide
theorem vi_127 (n : Nat) (h : 127 < n) : vp_in 127 n = True := vi_of (by decide) cl_127 h
theorem cl_128 : (128 : Int32).toNatClampNeg = 128 := by decide
theorem vi_128 (n : Nat) (h : 128 < n) : vp_in 128 n = True := vi_of (by decide) cl_128 h
theorem cl_138 : (138 : Int32).toNatClampNeg = 138 := by decide
theorem vi_138 (n : Nat) (h : 138 < n) : vp_in 138 n = True := vi_of (by decide) cl_138 h
theorem cl_166 : (166 : Int32).toNatClampNeg = 166 := by decide
theorem vi_166 (n : Nat) (h : 166 < n) : vp_in 166 n = True := vi_of (by decide) cl_166 h
theorem cl_180 : (180 : Int32).toNatClampNeg = 180 := by decide
theorem vi_180 (n : Nat) (h : 180 < n) : vp_in 180 n = True := vi_of (by decide) cl_180 h
theorem cl_255 : (255 : Int32).toNatClampNeg = 255 := by decide
theorem vi_255 (n : Nat) (h : 255 < n) : vp_in 255 n = True := vi_of (by decide) cl_255 h
theorem cl_256 : (256 : Int32).toNatClampNeg = 256 := by decide
theorem vi_256 (n : Nat) (h : 256 < n) : vp_in 256 n = True := vi_of (by decide) cl_256 h
theorem cl_400 : (400 : Int32).toNatClampNeg = 400 := by decide
theorem vi_400 (n : Nat) (h : 400 < n) : vp_in 400 n = True := vi_of (by decide) cl_400 h
theorem cl_1000 : (1000 : Int32).toNatClampNeg = 1000 := by decide
theorem vi_1000 (n : Nat) (h : 1000 < n) : vp_in 1000 n = True := vi_of (by decide) cl_1000 h
