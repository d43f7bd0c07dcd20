/-! the fixed cells: what the constructors make, in their order; shT: kind and length, rfT: the references that never change -/
def shT (a : Nat) : Nat × Nat := match a with
  | 0 => (1, 4)
  | 1 => (1, 4)
  | 2 => (1, 3)
  | 3 => (1, 3)
  | 4 => (2, 6)
  | 5 => (30, 0)
  | 6 => (6, 126)
  | 7 => (31, 0)
  | 9 => (18, 19)
  | 10 => (17, 15)
  | 11 => (1, 32)
  | 12 => (1, 24)
  | 13 => (1, 8)
  | 14 => (1, 64)
  | 15 => (1, 3)
  | 16 => (4, 6)
  | 17 => (1, 28)
  | 18 => (1, 8)
  | 19 => (5, 2)
  | 20 => (17, 15)
  | 21 => (1, 32)
  | 22 => (1, 24)
  | 23 => (1, 8)
  | 24 => (1, 64)
  | 25 => (1, 3)
  | 26 => (4, 6)
  | 27 => (1, 28)
  | 28 => (1, 8)
  | 29 => (17, 15)
  | 30 => (1, 32)
  | 31 => (1, 24)
  | 32 => (1, 8)
  | 33 => (1, 64)
  | 34 => (1, 3)
  | 35 => (4, 6)
  | 36 => (1, 28)
  | 37 => (1, 8)
  | 38 => (3, 2)
  | 39 => (1, 400)
  | 40 => (15, 12)
  | 41 => (1, 401)
  | 42 => (1, 401)
  | 43 => (1, 401)
  | 44 => (1, 400)
  | 45 => (1, 12)
  | 46 => (1, 25)
  | 47 => (1, 5)
  | 48 => (10, 7)
  | 49 => (1, 8)
  | 50 => (1, 64)
  | 51 => (1, 8)
  | 52 => (1, 10)
  | 53 => (1, 32)
  | 54 => (10, 7)
  | 55 => (1, 8)
  | 56 => (1, 64)
  | 57 => (1, 8)
  | 58 => (1, 10)
  | 59 => (1, 32)
  | 60 => (13, 10)
  | 61 => (2, 2304)
  | 62 => (1, 8)
  | 63 => (1, 8)
  | 64 => (11, 7)
  | 65 => (2, 36)
  | 66 => (2, 4)
  | 67 => (2, 4)
  | 68 => (3, 256)
  | 69 => (14, 5)
  | 70 => (3, 512)
  | 71 => (1, 128)
  | 72 => (1, 64)
  | 73 => (1, 8)
  | 74 => (16, 7)
  | 75 => (1, 40)
  | 76 => (2, 40)
  | 77 => (1, 64)
  | 78 => (1, 8)
  | 79 => (19, 55)
  | 80 => (1, 7)
  | 81 => (1, 5580)
  | 82 => (1, 11160)
  | 83 => (3, 2)
  | 84 => (1, 400)
  | 85 => (1, 96)
  | 86 => (1, 400)
  | 87 => (1, 400)
  | 88 => (1, 400)
  | 89 => (1, 400)
  | 90 => (2, 10)
  | 91 => (2, 4)
  | 92 => (2, 13)
  | 93 => (2, 400)
  | 94 => (1, 64)
  | 95 => (3, 64)
  | 96 => (1, 64)
  | 97 => (1, 256)
  | 98 => (1, 256)
  | 99 => (1, 256)
  | 100 => (1, 8)
  | 101 => (1, 8)
  | 102 => (3, 65536)
  | 103 => (1, 400)
  | 104 => (1, 64)
  | 105 => (1, 64)
  | _ => (0, 0)
def rfT (a f : Nat) : Option Nat := match a, f with
  | 9, 0 => some 10
  | 9, 1 => some 19
  | 9, 2 => some 38
  | 9, 3 => some 39
  | 9, 5 => some 40
  | 9, 8 => some 47
  | 9, 11 => some 48
  | 9, 12 => some 54
  | 9, 13 => some 60
  | 9, 14 => some 64
  | 9, 15 => some 69
  | 9, 16 => some 74
  | 9, 17 => some 78
  | 10, 2 => some 11
  | 10, 3 => some 12
  | 10, 4 => some 13
  | 10, 5 => some 14
  | 10, 7 => some 15
  | 10, 8 => some 16
  | 10, 11 => some 17
  | 10, 13 => some 18
  | 20, 2 => some 21
  | 20, 3 => some 22
  | 20, 4 => some 23
  | 20, 5 => some 24
  | 20, 7 => some 25
  | 20, 8 => some 26
  | 20, 11 => some 27
  | 20, 13 => some 28
  | 29, 2 => some 30
  | 29, 3 => some 31
  | 29, 4 => some 32
  | 29, 5 => some 33
  | 29, 7 => some 34
  | 29, 8 => some 35
  | 29, 11 => some 36
  | 29, 13 => some 37
  | 40, 0 => some 41
  | 40, 1 => some 42
  | 40, 2 => some 43
  | 40, 5 => some 44
  | 40, 7 => some 45
  | 40, 8 => some 46
  | 48, 2 => some 49
  | 48, 3 => some 50
  | 48, 4 => some 51
  | 48, 5 => some 52
  | 48, 6 => some 53
  | 54, 2 => some 55
  | 54, 3 => some 56
  | 54, 4 => some 57
  | 54, 5 => some 58
  | 54, 6 => some 59
  | 60, 0 => some 61
  | 60, 5 => some 62
  | 60, 8 => some 63
  | 64, 0 => some 65
  | 64, 1 => some 66
  | 64, 2 => some 67
  | 64, 5 => some 68
  | 69, 0 => some 70
  | 69, 1 => some 71
  | 69, 2 => some 72
  | 69, 3 => some 73
  | 74, 3 => some 75
  | 74, 4 => some 76
  | 74, 5 => some 77
  | 79, 2 => some 80
  | 79, 3 => some 81
  | 79, 4 => some 82
  | 79, 5 => some 83
  | 79, 7 => some 84
  | 79, 16 => some 85
  | 79, 18 => some 86
  | 79, 19 => some 87
  | 79, 21 => some 88
  | 79, 22 => some 89
  | 79, 25 => some 90
  | 79, 26 => some 91
  | 79, 28 => some 92
  | 79, 29 => some 93
  | 79, 33 => some 94
  | 79, 35 => some 95
  | 79, 36 => some 96
  | 79, 37 => some 97
  | 79, 38 => some 98
  | 79, 39 => some 99
  | 79, 40 => some 100
  | 79, 44 => some 101
  | 79, 45 => some 102
  | 79, 49 => some 103
  | 79, 50 => some 104
  | 79, 51 => some 105
  | _, _ => none
theorem shT_0 : shT 0 = (1, 4) := rfl
theorem shT_1 : shT 1 = (1, 4) := rfl
theorem shT_2 : shT 2 = (1, 3) := rfl
theorem shT_3 : shT 3 = (1, 3) := rfl
theorem shT_4 : shT 4 = (2, 6) := rfl
theorem shT_5 : shT 5 = (30, 0) := rfl
theorem shT_6 : shT 6 = (6, 126) := rfl
theorem shT_7 : shT 7 = (31, 0) := rfl
theorem shT_9 : shT 9 = (18, 19) := rfl
theorem shT_10 : shT 10 = (17, 15) := rfl
theorem shT_11 : shT 11 = (1, 32) := rfl
theorem shT_12 : shT 12 = (1, 24) := rfl
theorem shT_13 : shT 13 = (1, 8) := rfl
theorem shT_14 : shT 14 = (1, 64) := rfl
theorem shT_15 : shT 15 = (1, 3) := rfl
theorem shT_16 : shT 16 = (4, 6) := rfl
theorem shT_17 : shT 17 = (1, 28) := rfl
theorem shT_18 : shT 18 = (1, 8) := rfl
theorem shT_19 : shT 19 = (5, 2) := rfl
theorem shT_20 : shT 20 = (17, 15) := rfl
theorem shT_21 : shT 21 = (1, 32) := rfl
theorem shT_22 : shT 22 = (1, 24) := rfl
theorem shT_23 : shT 23 = (1, 8) := rfl
theorem shT_24 : shT 24 = (1, 64) := rfl
theorem shT_25 : shT 25 = (1, 3) := rfl
theorem shT_26 : shT 26 = (4, 6) := rfl
theorem shT_27 : shT 27 = (1, 28) := rfl
theorem shT_28 : shT 28 = (1, 8) := rfl
theorem shT_29 : shT 29 = (17, 15) := rfl
theorem shT_30 : shT 30 = (1, 32) := rfl
theorem shT_31 : shT 31 = (1, 24) := rfl
theorem shT_32 : shT 32 = (1, 8) := rfl
theorem shT_33 : shT 33 = (1, 64) := rfl
theorem shT_34 : shT 34 = (1, 3) := rfl
theorem shT_35 : shT 35 = (4, 6) := rfl
theorem shT_36 : shT 36 = (1, 28) := rfl
theorem shT_37 : shT 37 = (1, 8) := rfl
theorem shT_38 : shT 38 = (3, 2) := rfl
theorem shT_39 : shT 39 = (1, 400) := rfl
theorem shT_40 : shT 40 = (15, 12) := rfl
theorem shT_41 : shT 41 = (1, 401) := rfl
theorem shT_42 : shT 42 = (1, 401) := rfl
theorem shT_43 : shT 43 = (1, 401) := rfl
theorem shT_44 : shT 44 = (1, 400) := rfl
theorem shT_45 : shT 45 = (1, 12) := rfl
theorem shT_46 : shT 46 = (1, 25) := rfl
theorem shT_47 : shT 47 = (1, 5) := rfl
theorem shT_48 : shT 48 = (10, 7) := rfl
theorem shT_49 : shT 49 = (1, 8) := rfl
theorem shT_50 : shT 50 = (1, 64) := rfl
theorem shT_51 : shT 51 = (1, 8) := rfl
theorem shT_52 : shT 52 = (1, 10) := rfl
theorem shT_53 : shT 53 = (1, 32) := rfl
theorem shT_54 : shT 54 = (10, 7) := rfl
theorem shT_55 : shT 55 = (1, 8) := rfl
theorem shT_56 : shT 56 = (1, 64) := rfl
theorem shT_57 : shT 57 = (1, 8) := rfl
theorem shT_58 : shT 58 = (1, 10) := rfl
theorem shT_59 : shT 59 = (1, 32) := rfl
theorem shT_60 : shT 60 = (13, 10) := rfl
theorem shT_61 : shT 61 = (2, 2304) := rfl
theorem shT_62 : shT 62 = (1, 8) := rfl
theorem shT_63 : shT 63 = (1, 8) := rfl
theorem shT_64 : shT 64 = (11, 7) := rfl
theorem shT_65 : shT 65 = (2, 36) := rfl
theorem shT_66 : shT 66 = (2, 4) := rfl
theorem shT_67 : shT 67 = (2, 4) := rfl
theorem shT_68 : shT 68 = (3, 256) := rfl
theorem shT_69 : shT 69 = (14, 5) := rfl
theorem shT_70 : shT 70 = (3, 512) := rfl
theorem shT_71 : shT 71 = (1, 128) := rfl
theorem shT_72 : shT 72 = (1, 64) := rfl
theorem shT_73 : shT 73 = (1, 8) := rfl
theorem shT_74 : shT 74 = (16, 7) := rfl
theorem shT_75 : shT 75 = (1, 40) := rfl
theorem shT_76 : shT 76 = (2, 40) := rfl
theorem shT_77 : shT 77 = (1, 64) := rfl
theorem shT_78 : shT 78 = (1, 8) := rfl
theorem shT_79 : shT 79 = (19, 55) := rfl
theorem shT_80 : shT 80 = (1, 7) := rfl
theorem shT_81 : shT 81 = (1, 5580) := rfl
theorem shT_82 : shT 82 = (1, 11160) := rfl
theorem shT_83 : shT 83 = (3, 2) := rfl
theorem shT_84 : shT 84 = (1, 400) := rfl
theorem shT_85 : shT 85 = (1, 96) := rfl
theorem shT_86 : shT 86 = (1, 400) := rfl
theorem shT_87 : shT 87 = (1, 400) := rfl
theorem shT_88 : shT 88 = (1, 400) := rfl
theorem shT_89 : shT 89 = (1, 400) := rfl
theorem shT_90 : shT 90 = (2, 10) := rfl
theorem shT_91 : shT 91 = (2, 4) := rfl
theorem shT_92 : shT 92 = (2, 13) := rfl
theorem shT_93 : shT 93 = (2, 400) := rfl
theorem shT_94 : shT 94 = (1, 64) := rfl
theorem shT_95 : shT 95 = (3, 64) := rfl
theorem shT_96 : shT 96 = (1, 64) := rfl
theorem shT_97 : shT 97 = (1, 256) := rfl
theorem shT_98 : shT 98 = (1, 256) := rfl
theorem shT_99 : shT 99 = (1, 256) := rfl
theorem shT_100 : shT 100 = (1, 8) := rfl
theorem shT_101 : shT 101 = (1, 8) := rfl
theorem shT_102 : shT 102 = (3, 65536) := rfl
theorem shT_103 : shT 103 = (1, 400) := rfl
theorem shT_104 : shT 104 = (1, 64) := rfl
theorem shT_105 : shT 105 = (1, 64) := rfl
theorem rfT_9_0 : rfT 9 0 = some 10 := rfl
theorem rfT_9_1 : rfT 9 1 = some 19 := rfl
theorem rfT_9_2 : rfT 9 2 = some 38 := rfl
theorem rfT_9_3 : rfT 9 3 = some 39 := rfl
theorem rfT_9_5 : rfT 9 5 = some 40 := rfl
theorem rfT_9_8 : rfT 9 8 = some 47 := rfl
theorem rfT_9_11 : rfT 9 11 = some 48 := rfl
theorem rfT_9_12 : rfT 9 12 = some 54 := rfl
theorem rfT_9_13 : rfT 9 13 = some 60 := rfl
theorem rfT_9_14 : rfT 9 14 = some 64 := rfl
theorem rfT_9_15 : rfT 9 15 = some 69 := rfl
theorem rfT_9_16 : rfT 9 16 = some 74 := rfl
theorem rfT_9_17 : rfT 9 17 = some 78 := rfl
theorem rfT_10_2 : rfT 10 2 = some 11 := rfl
theorem rfT_10_3 : rfT 10 3 = some 12 := rfl
theorem rfT_10_4 : rfT 10 4 = some 13 := rfl
theorem rfT_10_5 : rfT 10 5 = some 14 := rfl
theorem rfT_10_7 : rfT 10 7 = some 15 := rfl
theorem rfT_10_8 : rfT 10 8 = some 16 := rfl
theorem rfT_10_11 : rfT 10 11 = some 17 := rfl
theorem rfT_10_13 : rfT 10 13 = some 18 := rfl
theorem rfT_20_2 : rfT 20 2 = some 21 := rfl
theorem rfT_20_3 : rfT 20 3 = some 22 := rfl
theorem rfT_20_4 : rfT 20 4 = some 23 := rfl
theorem rfT_20_5 : rfT 20 5 = some 24 := rfl
theorem rfT_20_7 : rfT 20 7 = some 25 := rfl
theorem rfT_20_8 : rfT 20 8 = some 26 := rfl
theorem rfT_20_11 : rfT 20 11 = some 27 := rfl
theorem rfT_20_13 : rfT 20 13 = some 28 := rfl
theorem rfT_29_2 : rfT 29 2 = some 30 := rfl
theorem rfT_29_3 : rfT 29 3 = some 31 := rfl
theorem rfT_29_4 : rfT 29 4 = some 32 := rfl
theorem rfT_29_5 : rfT 29 5 = some 33 := rfl
theorem rfT_29_7 : rfT 29 7 = some 34 := rfl
theorem rfT_29_8 : rfT 29 8 = some 35 := rfl
theorem rfT_29_11 : rfT 29 11 = some 36 := rfl
theorem rfT_29_13 : rfT 29 13 = some 37 := rfl
theorem rfT_40_0 : rfT 40 0 = some 41 := rfl
theorem rfT_40_1 : rfT 40 1 = some 42 := rfl
theorem rfT_40_2 : rfT 40 2 = some 43 := rfl
theorem rfT_40_5 : rfT 40 5 = some 44 := rfl
theorem rfT_40_7 : rfT 40 7 = some 45 := rfl
theorem rfT_40_8 : rfT 40 8 = some 46 := rfl
theorem rfT_48_2 : rfT 48 2 = some 49 := rfl
theorem rfT_48_3 : rfT 48 3 = some 50 := rfl
theorem rfT_48_4 : rfT 48 4 = some 51 := rfl
theorem rfT_48_5 : rfT 48 5 = some 52 := rfl
theorem rfT_48_6 : rfT 48 6 = some 53 := rfl
theorem rfT_54_2 : rfT 54 2 = some 55 := rfl
theorem rfT_54_3 : rfT 54 3 = some 56 := rfl
theorem rfT_54_4 : rfT 54 4 = some 57 := rfl
theorem rfT_54_5 : rfT 54 5 = some 58 := rfl
theorem rfT_54_6 : rfT 54 6 = some 59 := rfl
theorem rfT_60_0 : rfT 60 0 = some 61 := rfl
theorem rfT_60_5 : rfT 60 5 = some 62 := rfl
theorem rfT_60_8 : rfT 60 8 = some 63 := rfl
theorem rfT_64_0 : rfT 64 0 = some 65 := rfl
theorem rfT_64_1 : rfT 64 1 = some 66 := rfl
theorem rfT_64_2 : rfT 64 2 = some 67 := rfl
theorem rfT_64_5 : rfT 64 5 = some 68 := rfl
theorem rfT_69_0 : rfT 69 0 = some 70 := rfl
theorem rfT_69_1 : rfT 69 1 = some 71 := rfl
theorem rfT_69_2 : rfT 69 2 = some 72 := rfl
theorem rfT_69_3 : rfT 69 3 = some 73 := rfl
theorem rfT_74_3 : rfT 74 3 = some 75 := rfl
theorem rfT_74_4 : rfT 74 4 = some 76 := rfl
theorem rfT_74_5 : rfT 74 5 = some 77 := rfl
theorem rfT_79_2 : rfT 79 2 = some 80 := rfl
theorem rfT_79_3 : rfT 79 3 = some 81 := rfl
theorem rfT_79_4 : rfT 79 4 = some 82 := rfl
theorem rfT_79_5 : rfT 79 5 = some 83 := rfl
theorem rfT_79_7 : rfT 79 7 = some 84 := rfl
theorem rfT_79_16 : rfT 79 16 = some 85 := rfl
theorem rfT_79_18 : rfT 79 18 = some 86 := rfl
theorem rfT_79_19 : rfT 79 19 = some 87 := rfl
theorem rfT_79_21 : rfT 79 21 = some 88 := rfl
theorem rfT_79_22 : rfT 79 22 = some 89 := rfl
theorem rfT_79_25 : rfT 79 25 = some 90 := rfl
theorem rfT_79_26 : rfT 79 26 = some 91 := rfl
theorem rfT_79_28 : rfT 79 28 = some 92 := rfl
theorem rfT_79_29 : rfT 79 29 = some 93 := rfl
theorem rfT_79_33 : rfT 79 33 = some 94 := rfl
theorem rfT_79_35 : rfT 79 35 = some 95 := rfl
theorem rfT_79_36 : rfT 79 36 = some 96 := rfl
theorem rfT_79_37 : rfT 79 37 = some 97 := rfl
theorem rfT_79_38 : rfT 79 38 = some 98 := rfl
theorem rfT_79_39 : rfT 79 39 = some 99 := rfl
theorem rfT_79_40 : rfT 79 40 = some 100 := rfl
theorem rfT_79_44 : rfT 79 44 = some 101 := rfl
theorem rfT_79_45 : rfT 79 45 = some 102 := rfl
theorem rfT_79_49 : rfT 79 49 = some 103 := rfl
theorem rfT_79_50 : rfT 79 50 = some 104 := rfl
theorem rfT_79_51 : rfT 79 51 = some 105 := rfl
def pR (t x : Option Nat) (f : Value → Prop) : Prop := match t with
  | some b => x = some b ∧ f (.ref b)
  | none => f (rfv x)
theorem pR_use {t x : Option Nat} {f : Value → Prop} (h : pR t x f) : f (rfv x) := by
  cases t with
  | none => exact h
  | some b => obtain ⟨rfl, h⟩ := h; exact h
theorem pR_s (b : Nat) (x : Option Nat) (f : Value → Prop) : pR (some b) x f = (x = some b ∧ f (.ref b)) := rfl
theorem pR_d {x : Option Nat} {b : Nat} (hx : x = some b) (f : Value → Prop) : pR none x f = f (.ref b) := by rw [hx]; rfl
theorem pR_0 {x : Option Nat} (hx : x = none) (f : Value → Prop) : pR none x f = f .null := by rw [hx]; rfl
/-- the fixed cells stand -/
def WF (h : Hp) : Prop := 106 ≤ hN h ∧ (∀ a, a < 106 → a ≠ 8 → hS h a = shT a) ∧ ∀ a f, rfT a f ≠ none → hR h a f = rfT a f
theorem WF.s {h : Hp} (w : WF h) (a : Nat) (ha : a < 106) (hb : a ≠ 8) : hS h a = shT a := w.2.1 a ha hb
theorem WF.r {h : Hp} (w : WF h) (a f : Nat) (ha : rfT a f ≠ none) : hR h a f = rfT a f := w.2.2 a f ha
theorem WF_sI {h : Hp} (w : WF h) (a i : Nat) (v : Int32) : WF (sI h a i v) := w
theorem WF_sJ {h : Hp} (w : WF h) (a i : Nat) (v : Int64) : WF (sJ h a i v) := w
theorem WF_wI {h : Hp} (w : WF h) (a : Nat) (f : Nat → Int32) : WF (wI h a f) := w
theorem WF_wJ {h : Hp} (w : WF h) (a : Nat) (f : Nat → Int64) : WF (wJ h a f) := w
theorem WF_sR {h : Hp} (w : WF h) (a i : Nat) (v : Option Nat) (hn : rfT a i = none) : WF (sR h a i v) := by
  refine ⟨w.1, w.2.1, fun b f hb => ?_⟩
  rw [hR_sR, if_neg]
  · exact w.2.2 b f hb
  · rintro ⟨rfl, rfl⟩
    exact hb hn
theorem rfT_big {a f : Nat} (h : 106 ≤ a) : rfT a f = none := by
  unfold rfT
  split <;> first | omega | rfl
theorem WF_nw {h : Hp} (w : WF h) (k n : Nat) : WF (nw h k n) := by
  refine ⟨by rw [hN_nw]; have := w.1; omega, fun a ha hb => ?_, fun a f hf => ?_⟩
  · rw [hS_nw, if_neg (by have := w.1; omega)]
    exact w.2.1 a ha hb
  · rw [hR_nw, if_neg]
    · exact w.2.2 a f hf
    · intro e
      subst e
      exact hf (rfT_big w.1)
