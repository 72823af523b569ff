/-! the layout of the run: the class first (120 cells), the law's arrays behind it -/
def LY : List LK := [kO 5 [some (some 1), some (some 12), some (some 80), some (some 103), some (some 104), some (some 109), some (some 114), some (some 116), some (some 118)],
  kO 3 [some (some 2), some (some 3)],
  kA 0 6,
  kR 3 [some 4, some 6, some 8, some 10],
  kO 4 [some (some 5), none],
  kA 0 120,
  kO 4 [some (some 7), none],
  kA 0 120,
  kO 4 [some (some 9), none],
  kA 0 120,
  kO 4 [some (some 11), none],
  kA 0 120,
  kO 1 [some (some 13), none, none],
  kR 2 [some 14, some 25, some 36, some 47, some 58, some 69],
  kO 3 [some (some 15), some (some 16)],
  kA 0 6,
  kR 3 [some 17, some 19, some 21, some 23],
  kO 4 [some (some 18), none],
  kA 0 120,
  kO 4 [some (some 20), none],
  kA 0 120,
  kO 4 [some (some 22), none],
  kA 0 120,
  kO 4 [some (some 24), none],
  kA 0 120,
  kO 3 [some (some 26), some (some 27)],
  kA 0 6,
  kR 3 [some 28, some 30, some 32, some 34],
  kO 4 [some (some 29), none],
  kA 0 120,
  kO 4 [some (some 31), none],
  kA 0 120,
  kO 4 [some (some 33), none],
  kA 0 120,
  kO 4 [some (some 35), none],
  kA 0 120,
  kO 3 [some (some 37), some (some 38)],
  kA 0 6,
  kR 3 [some 39, some 41, some 43, some 45],
  kO 4 [some (some 40), none],
  kA 0 120,
  kO 4 [some (some 42), none],
  kA 0 120,
  kO 4 [some (some 44), none],
  kA 0 120,
  kO 4 [some (some 46), none],
  kA 0 120,
  kO 3 [some (some 48), some (some 49)],
  kA 0 6,
  kR 3 [some 50, some 52, some 54, some 56],
  kO 4 [some (some 51), none],
  kA 0 120,
  kO 4 [some (some 53), none],
  kA 0 120,
  kO 4 [some (some 55), none],
  kA 0 120,
  kO 4 [some (some 57), none],
  kA 0 120,
  kO 3 [some (some 59), some (some 60)],
  kA 0 6,
  kR 3 [some 61, some 63, some 65, some 67],
  kO 4 [some (some 62), none],
  kA 0 120,
  kO 4 [some (some 64), none],
  kA 0 120,
  kO 4 [some (some 66), none],
  kA 0 120,
  kO 4 [some (some 68), none],
  kA 0 120,
  kO 3 [some (some 70), some (some 71)],
  kA 0 6,
  kR 3 [some 72, some 74, some 76, some 78],
  kO 4 [some (some 73), none],
  kA 0 120,
  kO 4 [some (some 75), none],
  kA 0 120,
  kO 4 [some (some 77), none],
  kA 0 120,
  kO 4 [some (some 79), none],
  kA 0 120,
  kR 2 [some 81, some 92],
  kO 3 [some (some 82), some (some 83)],
  kA 0 6,
  kR 3 [some 84, some 86, some 88, some 90],
  kO 4 [some (some 85), none],
  kA 0 120,
  kO 4 [some (some 87), none],
  kA 0 120,
  kO 4 [some (some 89), none],
  kA 0 120,
  kO 4 [some (some 91), none],
  kA 0 120,
  kO 3 [some (some 93), some (some 94)],
  kA 0 6,
  kR 3 [some 95, some 97, some 99, some 101],
  kO 4 [some (some 96), none],
  kA 0 120,
  kO 4 [some (some 98), none],
  kA 0 120,
  kO 4 [some (some 100), none],
  kA 0 120,
  kO 4 [some (some 102), none],
  kA 0 120,
  kA 1 2,
  kO 0 [some (some 105), none, some (some 106), some (some 107), some (some 108), none],
  kA 0 60,
  kA 0 4,
  kA 0 4,
  kA 0 4,
  kO 2 [some (some 110), some (some 111), some (some 112), some (some 113)],
  kA 0 7260,
  kA 0 120,
  kA 0 120,
  kA 0 12,
  kO 4 [some (some 115), none],
  kA 0 480,
  kO 4 [some (some 117), none],
  kA 0 480,
  kO 4 [some (some 119), none],
  kA 0 480]
def LAY : Lay := fun i => LY.getD i (kA 0 64)
abbrev NN (g : GE) : Nat := 120 + g.2.2.2
theorem LAY_hi {i : Nat} (h : 120 ≤ i) : LAY i = kA 0 64 := by unfold LAY; rw [List.getD_eq_getElem?_getD, List.getElem?_eq_none (by exact h)]; rfl
theorem L_0 : LAY 0 = kO 5 [some (some 1), some (some 12), some (some 80), some (some 103), some (some 104), some (some 109), some (some 114), some (some 116), some (some 118)] := rfl
theorem n_0 {g : GE} : 0 < NN g := Nat.lt_of_lt_of_le (by decide : 0 < 120) (Nat.le_add_right _ _)
theorem L_1 : LAY 1 = kO 3 [some (some 2), some (some 3)] := rfl
theorem n_1 {g : GE} : 1 < NN g := Nat.lt_of_lt_of_le (by decide : 1 < 120) (Nat.le_add_right _ _)
theorem L_2 : LAY 2 = kA 0 6 := rfl
theorem n_2 {g : GE} : 2 < NN g := Nat.lt_of_lt_of_le (by decide : 2 < 120) (Nat.le_add_right _ _)
theorem L_3 : LAY 3 = kR 3 [some 4, some 6, some 8, some 10] := rfl
theorem n_3 {g : GE} : 3 < NN g := Nat.lt_of_lt_of_le (by decide : 3 < 120) (Nat.le_add_right _ _)
theorem L_4 : LAY 4 = kO 4 [some (some 5), none] := rfl
theorem n_4 {g : GE} : 4 < NN g := Nat.lt_of_lt_of_le (by decide : 4 < 120) (Nat.le_add_right _ _)
theorem L_5 : LAY 5 = kA 0 120 := rfl
theorem n_5 {g : GE} : 5 < NN g := Nat.lt_of_lt_of_le (by decide : 5 < 120) (Nat.le_add_right _ _)
theorem L_6 : LAY 6 = kO 4 [some (some 7), none] := rfl
theorem n_6 {g : GE} : 6 < NN g := Nat.lt_of_lt_of_le (by decide : 6 < 120) (Nat.le_add_right _ _)
theorem L_7 : LAY 7 = kA 0 120 := rfl
theorem n_7 {g : GE} : 7 < NN g := Nat.lt_of_lt_of_le (by decide : 7 < 120) (Nat.le_add_right _ _)
theorem L_8 : LAY 8 = kO 4 [some (some 9), none] := rfl
theorem n_8 {g : GE} : 8 < NN g := Nat.lt_of_lt_of_le (by decide : 8 < 120) (Nat.le_add_right _ _)
theorem L_9 : LAY 9 = kA 0 120 := rfl
theorem n_9 {g : GE} : 9 < NN g := Nat.lt_of_lt_of_le (by decide : 9 < 120) (Nat.le_add_right _ _)
theorem L_10 : LAY 10 = kO 4 [some (some 11), none] := rfl
theorem n_10 {g : GE} : 10 < NN g := Nat.lt_of_lt_of_le (by decide : 10 < 120) (Nat.le_add_right _ _)
theorem L_11 : LAY 11 = kA 0 120 := rfl
theorem n_11 {g : GE} : 11 < NN g := Nat.lt_of_lt_of_le (by decide : 11 < 120) (Nat.le_add_right _ _)
theorem L_12 : LAY 12 = kO 1 [some (some 13), none, none] := rfl
theorem n_12 {g : GE} : 12 < NN g := Nat.lt_of_lt_of_le (by decide : 12 < 120) (Nat.le_add_right _ _)
theorem L_13 : LAY 13 = kR 2 [some 14, some 25, some 36, some 47, some 58, some 69] := rfl
theorem n_13 {g : GE} : 13 < NN g := Nat.lt_of_lt_of_le (by decide : 13 < 120) (Nat.le_add_right _ _)
theorem L_14 : LAY 14 = kO 3 [some (some 15), some (some 16)] := rfl
theorem n_14 {g : GE} : 14 < NN g := Nat.lt_of_lt_of_le (by decide : 14 < 120) (Nat.le_add_right _ _)
theorem L_15 : LAY 15 = kA 0 6 := rfl
theorem n_15 {g : GE} : 15 < NN g := Nat.lt_of_lt_of_le (by decide : 15 < 120) (Nat.le_add_right _ _)
theorem L_16 : LAY 16 = kR 3 [some 17, some 19, some 21, some 23] := rfl
theorem n_16 {g : GE} : 16 < NN g := Nat.lt_of_lt_of_le (by decide : 16 < 120) (Nat.le_add_right _ _)
theorem L_17 : LAY 17 = kO 4 [some (some 18), none] := rfl
theorem n_17 {g : GE} : 17 < NN g := Nat.lt_of_lt_of_le (by decide : 17 < 120) (Nat.le_add_right _ _)
theorem L_18 : LAY 18 = kA 0 120 := rfl
theorem n_18 {g : GE} : 18 < NN g := Nat.lt_of_lt_of_le (by decide : 18 < 120) (Nat.le_add_right _ _)
theorem L_19 : LAY 19 = kO 4 [some (some 20), none] := rfl
theorem n_19 {g : GE} : 19 < NN g := Nat.lt_of_lt_of_le (by decide : 19 < 120) (Nat.le_add_right _ _)
theorem L_20 : LAY 20 = kA 0 120 := rfl
theorem n_20 {g : GE} : 20 < NN g := Nat.lt_of_lt_of_le (by decide : 20 < 120) (Nat.le_add_right _ _)
theorem L_21 : LAY 21 = kO 4 [some (some 22), none] := rfl
theorem n_21 {g : GE} : 21 < NN g := Nat.lt_of_lt_of_le (by decide : 21 < 120) (Nat.le_add_right _ _)
theorem L_22 : LAY 22 = kA 0 120 := rfl
theorem n_22 {g : GE} : 22 < NN g := Nat.lt_of_lt_of_le (by decide : 22 < 120) (Nat.le_add_right _ _)
theorem L_23 : LAY 23 = kO 4 [some (some 24), none] := rfl
theorem n_23 {g : GE} : 23 < NN g := Nat.lt_of_lt_of_le (by decide : 23 < 120) (Nat.le_add_right _ _)
theorem L_24 : LAY 24 = kA 0 120 := rfl
theorem n_24 {g : GE} : 24 < NN g := Nat.lt_of_lt_of_le (by decide : 24 < 120) (Nat.le_add_right _ _)
theorem L_25 : LAY 25 = kO 3 [some (some 26), some (some 27)] := rfl
theorem n_25 {g : GE} : 25 < NN g := Nat.lt_of_lt_of_le (by decide : 25 < 120) (Nat.le_add_right _ _)
theorem L_26 : LAY 26 = kA 0 6 := rfl
theorem n_26 {g : GE} : 26 < NN g := Nat.lt_of_lt_of_le (by decide : 26 < 120) (Nat.le_add_right _ _)
theorem L_27 : LAY 27 = kR 3 [some 28, some 30, some 32, some 34] := rfl
theorem n_27 {g : GE} : 27 < NN g := Nat.lt_of_lt_of_le (by decide : 27 < 120) (Nat.le_add_right _ _)
theorem L_28 : LAY 28 = kO 4 [some (some 29), none] := rfl
theorem n_28 {g : GE} : 28 < NN g := Nat.lt_of_lt_of_le (by decide : 28 < 120) (Nat.le_add_right _ _)
theorem L_29 : LAY 29 = kA 0 120 := rfl
theorem n_29 {g : GE} : 29 < NN g := Nat.lt_of_lt_of_le (by decide : 29 < 120) (Nat.le_add_right _ _)
theorem L_30 : LAY 30 = kO 4 [some (some 31), none] := rfl
theorem n_30 {g : GE} : 30 < NN g := Nat.lt_of_lt_of_le (by decide : 30 < 120) (Nat.le_add_right _ _)
theorem L_31 : LAY 31 = kA 0 120 := rfl
theorem n_31 {g : GE} : 31 < NN g := Nat.lt_of_lt_of_le (by decide : 31 < 120) (Nat.le_add_right _ _)
theorem L_32 : LAY 32 = kO 4 [some (some 33), none] := rfl
theorem n_32 {g : GE} : 32 < NN g := Nat.lt_of_lt_of_le (by decide : 32 < 120) (Nat.le_add_right _ _)
theorem L_33 : LAY 33 = kA 0 120 := rfl
theorem n_33 {g : GE} : 33 < NN g := Nat.lt_of_lt_of_le (by decide : 33 < 120) (Nat.le_add_right _ _)
theorem L_34 : LAY 34 = kO 4 [some (some 35), none] := rfl
theorem n_34 {g : GE} : 34 < NN g := Nat.lt_of_lt_of_le (by decide : 34 < 120) (Nat.le_add_right _ _)
theorem L_35 : LAY 35 = kA 0 120 := rfl
theorem n_35 {g : GE} : 35 < NN g := Nat.lt_of_lt_of_le (by decide : 35 < 120) (Nat.le_add_right _ _)
theorem L_36 : LAY 36 = kO 3 [some (some 37), some (some 38)] := rfl
theorem n_36 {g : GE} : 36 < NN g := Nat.lt_of_lt_of_le (by decide : 36 < 120) (Nat.le_add_right _ _)
theorem L_37 : LAY 37 = kA 0 6 := rfl
theorem n_37 {g : GE} : 37 < NN g := Nat.lt_of_lt_of_le (by decide : 37 < 120) (Nat.le_add_right _ _)
theorem L_38 : LAY 38 = kR 3 [some 39, some 41, some 43, some 45] := rfl
theorem n_38 {g : GE} : 38 < NN g := Nat.lt_of_lt_of_le (by decide : 38 < 120) (Nat.le_add_right _ _)
theorem L_39 : LAY 39 = kO 4 [some (some 40), none] := rfl
theorem n_39 {g : GE} : 39 < NN g := Nat.lt_of_lt_of_le (by decide : 39 < 120) (Nat.le_add_right _ _)
theorem L_40 : LAY 40 = kA 0 120 := rfl
theorem n_40 {g : GE} : 40 < NN g := Nat.lt_of_lt_of_le (by decide : 40 < 120) (Nat.le_add_right _ _)
theorem L_41 : LAY 41 = kO 4 [some (some 42), none] := rfl
theorem n_41 {g : GE} : 41 < NN g := Nat.lt_of_lt_of_le (by decide : 41 < 120) (Nat.le_add_right _ _)
theorem L_42 : LAY 42 = kA 0 120 := rfl
theorem n_42 {g : GE} : 42 < NN g := Nat.lt_of_lt_of_le (by decide : 42 < 120) (Nat.le_add_right _ _)
theorem L_43 : LAY 43 = kO 4 [some (some 44), none] := rfl
theorem n_43 {g : GE} : 43 < NN g := Nat.lt_of_lt_of_le (by decide : 43 < 120) (Nat.le_add_right _ _)
theorem L_44 : LAY 44 = kA 0 120 := rfl
theorem n_44 {g : GE} : 44 < NN g := Nat.lt_of_lt_of_le (by decide : 44 < 120) (Nat.le_add_right _ _)
theorem L_45 : LAY 45 = kO 4 [some (some 46), none] := rfl
theorem n_45 {g : GE} : 45 < NN g := Nat.lt_of_lt_of_le (by decide : 45 < 120) (Nat.le_add_right _ _)
theorem L_46 : LAY 46 = kA 0 120 := rfl
theorem n_46 {g : GE} : 46 < NN g := Nat.lt_of_lt_of_le (by decide : 46 < 120) (Nat.le_add_right _ _)
theorem L_47 : LAY 47 = kO 3 [some (some 48), some (some 49)] := rfl
theorem n_47 {g : GE} : 47 < NN g := Nat.lt_of_lt_of_le (by decide : 47 < 120) (Nat.le_add_right _ _)
theorem L_48 : LAY 48 = kA 0 6 := rfl
theorem n_48 {g : GE} : 48 < NN g := Nat.lt_of_lt_of_le (by decide : 48 < 120) (Nat.le_add_right _ _)
theorem L_49 : LAY 49 = kR 3 [some 50, some 52, some 54, some 56] := rfl
theorem n_49 {g : GE} : 49 < NN g := Nat.lt_of_lt_of_le (by decide : 49 < 120) (Nat.le_add_right _ _)
theorem L_50 : LAY 50 = kO 4 [some (some 51), none] := rfl
theorem n_50 {g : GE} : 50 < NN g := Nat.lt_of_lt_of_le (by decide : 50 < 120) (Nat.le_add_right _ _)
theorem L_51 : LAY 51 = kA 0 120 := rfl
theorem n_51 {g : GE} : 51 < NN g := Nat.lt_of_lt_of_le (by decide : 51 < 120) (Nat.le_add_right _ _)
theorem L_52 : LAY 52 = kO 4 [some (some 53), none] := rfl
theorem n_52 {g : GE} : 52 < NN g := Nat.lt_of_lt_of_le (by decide : 52 < 120) (Nat.le_add_right _ _)
theorem L_53 : LAY 53 = kA 0 120 := rfl
theorem n_53 {g : GE} : 53 < NN g := Nat.lt_of_lt_of_le (by decide : 53 < 120) (Nat.le_add_right _ _)
theorem L_54 : LAY 54 = kO 4 [some (some 55), none] := rfl
theorem n_54 {g : GE} : 54 < NN g := Nat.lt_of_lt_of_le (by decide : 54 < 120) (Nat.le_add_right _ _)
theorem L_55 : LAY 55 = kA 0 120 := rfl
theorem n_55 {g : GE} : 55 < NN g := Nat.lt_of_lt_of_le (by decide : 55 < 120) (Nat.le_add_right _ _)
theorem L_56 : LAY 56 = kO 4 [some (some 57), none] := rfl
theorem n_56 {g : GE} : 56 < NN g := Nat.lt_of_lt_of_le (by decide : 56 < 120) (Nat.le_add_right _ _)
theorem L_57 : LAY 57 = kA 0 120 := rfl
theorem n_57 {g : GE} : 57 < NN g := Nat.lt_of_lt_of_le (by decide : 57 < 120) (Nat.le_add_right _ _)
theorem L_58 : LAY 58 = kO 3 [some (some 59), some (some 60)] := rfl
theorem n_58 {g : GE} : 58 < NN g := Nat.lt_of_lt_of_le (by decide : 58 < 120) (Nat.le_add_right _ _)
theorem L_59 : LAY 59 = kA 0 6 := rfl
theorem n_59 {g : GE} : 59 < NN g := Nat.lt_of_lt_of_le (by decide : 59 < 120) (Nat.le_add_right _ _)
theorem L_60 : LAY 60 = kR 3 [some 61, some 63, some 65, some 67] := rfl
theorem n_60 {g : GE} : 60 < NN g := Nat.lt_of_lt_of_le (by decide : 60 < 120) (Nat.le_add_right _ _)
theorem L_61 : LAY 61 = kO 4 [some (some 62), none] := rfl
theorem n_61 {g : GE} : 61 < NN g := Nat.lt_of_lt_of_le (by decide : 61 < 120) (Nat.le_add_right _ _)
theorem L_62 : LAY 62 = kA 0 120 := rfl
theorem n_62 {g : GE} : 62 < NN g := Nat.lt_of_lt_of_le (by decide : 62 < 120) (Nat.le_add_right _ _)
theorem L_63 : LAY 63 = kO 4 [some (some 64), none] := rfl
theorem n_63 {g : GE} : 63 < NN g := Nat.lt_of_lt_of_le (by decide : 63 < 120) (Nat.le_add_right _ _)
theorem L_64 : LAY 64 = kA 0 120 := rfl
theorem n_64 {g : GE} : 64 < NN g := Nat.lt_of_lt_of_le (by decide : 64 < 120) (Nat.le_add_right _ _)
theorem L_65 : LAY 65 = kO 4 [some (some 66), none] := rfl
theorem n_65 {g : GE} : 65 < NN g := Nat.lt_of_lt_of_le (by decide : 65 < 120) (Nat.le_add_right _ _)
theorem L_66 : LAY 66 = kA 0 120 := rfl
theorem n_66 {g : GE} : 66 < NN g := Nat.lt_of_lt_of_le (by decide : 66 < 120) (Nat.le_add_right _ _)
theorem L_67 : LAY 67 = kO 4 [some (some 68), none] := rfl
theorem n_67 {g : GE} : 67 < NN g := Nat.lt_of_lt_of_le (by decide : 67 < 120) (Nat.le_add_right _ _)
theorem L_68 : LAY 68 = kA 0 120 := rfl
theorem n_68 {g : GE} : 68 < NN g := Nat.lt_of_lt_of_le (by decide : 68 < 120) (Nat.le_add_right _ _)
theorem L_69 : LAY 69 = kO 3 [some (some 70), some (some 71)] := rfl
theorem n_69 {g : GE} : 69 < NN g := Nat.lt_of_lt_of_le (by decide : 69 < 120) (Nat.le_add_right _ _)
theorem L_70 : LAY 70 = kA 0 6 := rfl
theorem n_70 {g : GE} : 70 < NN g := Nat.lt_of_lt_of_le (by decide : 70 < 120) (Nat.le_add_right _ _)
theorem L_71 : LAY 71 = kR 3 [some 72, some 74, some 76, some 78] := rfl
theorem n_71 {g : GE} : 71 < NN g := Nat.lt_of_lt_of_le (by decide : 71 < 120) (Nat.le_add_right _ _)
theorem L_72 : LAY 72 = kO 4 [some (some 73), none] := rfl
theorem n_72 {g : GE} : 72 < NN g := Nat.lt_of_lt_of_le (by decide : 72 < 120) (Nat.le_add_right _ _)
theorem L_73 : LAY 73 = kA 0 120 := rfl
theorem n_73 {g : GE} : 73 < NN g := Nat.lt_of_lt_of_le (by decide : 73 < 120) (Nat.le_add_right _ _)
theorem L_74 : LAY 74 = kO 4 [some (some 75), none] := rfl
theorem n_74 {g : GE} : 74 < NN g := Nat.lt_of_lt_of_le (by decide : 74 < 120) (Nat.le_add_right _ _)
theorem L_75 : LAY 75 = kA 0 120 := rfl
theorem n_75 {g : GE} : 75 < NN g := Nat.lt_of_lt_of_le (by decide : 75 < 120) (Nat.le_add_right _ _)
theorem L_76 : LAY 76 = kO 4 [some (some 77), none] := rfl
theorem n_76 {g : GE} : 76 < NN g := Nat.lt_of_lt_of_le (by decide : 76 < 120) (Nat.le_add_right _ _)
theorem L_77 : LAY 77 = kA 0 120 := rfl
theorem n_77 {g : GE} : 77 < NN g := Nat.lt_of_lt_of_le (by decide : 77 < 120) (Nat.le_add_right _ _)
theorem L_78 : LAY 78 = kO 4 [some (some 79), none] := rfl
theorem n_78 {g : GE} : 78 < NN g := Nat.lt_of_lt_of_le (by decide : 78 < 120) (Nat.le_add_right _ _)
theorem L_79 : LAY 79 = kA 0 120 := rfl
theorem n_79 {g : GE} : 79 < NN g := Nat.lt_of_lt_of_le (by decide : 79 < 120) (Nat.le_add_right _ _)
theorem L_80 : LAY 80 = kR 2 [some 81, some 92] := rfl
theorem n_80 {g : GE} : 80 < NN g := Nat.lt_of_lt_of_le (by decide : 80 < 120) (Nat.le_add_right _ _)
theorem L_81 : LAY 81 = kO 3 [some (some 82), some (some 83)] := rfl
theorem n_81 {g : GE} : 81 < NN g := Nat.lt_of_lt_of_le (by decide : 81 < 120) (Nat.le_add_right _ _)
theorem L_82 : LAY 82 = kA 0 6 := rfl
theorem n_82 {g : GE} : 82 < NN g := Nat.lt_of_lt_of_le (by decide : 82 < 120) (Nat.le_add_right _ _)
theorem L_83 : LAY 83 = kR 3 [some 84, some 86, some 88, some 90] := rfl
theorem n_83 {g : GE} : 83 < NN g := Nat.lt_of_lt_of_le (by decide : 83 < 120) (Nat.le_add_right _ _)
theorem L_84 : LAY 84 = kO 4 [some (some 85), none] := rfl
theorem n_84 {g : GE} : 84 < NN g := Nat.lt_of_lt_of_le (by decide : 84 < 120) (Nat.le_add_right _ _)
theorem L_85 : LAY 85 = kA 0 120 := rfl
theorem n_85 {g : GE} : 85 < NN g := Nat.lt_of_lt_of_le (by decide : 85 < 120) (Nat.le_add_right _ _)
theorem L_86 : LAY 86 = kO 4 [some (some 87), none] := rfl
theorem n_86 {g : GE} : 86 < NN g := Nat.lt_of_lt_of_le (by decide : 86 < 120) (Nat.le_add_right _ _)
theorem L_87 : LAY 87 = kA 0 120 := rfl
theorem n_87 {g : GE} : 87 < NN g := Nat.lt_of_lt_of_le (by decide : 87 < 120) (Nat.le_add_right _ _)
theorem L_88 : LAY 88 = kO 4 [some (some 89), none] := rfl
theorem n_88 {g : GE} : 88 < NN g := Nat.lt_of_lt_of_le (by decide : 88 < 120) (Nat.le_add_right _ _)
theorem L_89 : LAY 89 = kA 0 120 := rfl
theorem n_89 {g : GE} : 89 < NN g := Nat.lt_of_lt_of_le (by decide : 89 < 120) (Nat.le_add_right _ _)
theorem L_90 : LAY 90 = kO 4 [some (some 91), none] := rfl
theorem n_90 {g : GE} : 90 < NN g := Nat.lt_of_lt_of_le (by decide : 90 < 120) (Nat.le_add_right _ _)
theorem L_91 : LAY 91 = kA 0 120 := rfl
theorem n_91 {g : GE} : 91 < NN g := Nat.lt_of_lt_of_le (by decide : 91 < 120) (Nat.le_add_right _ _)
theorem L_92 : LAY 92 = kO 3 [some (some 93), some (some 94)] := rfl
theorem n_92 {g : GE} : 92 < NN g := Nat.lt_of_lt_of_le (by decide : 92 < 120) (Nat.le_add_right _ _)
theorem L_93 : LAY 93 = kA 0 6 := rfl
theorem n_93 {g : GE} : 93 < NN g := Nat.lt_of_lt_of_le (by decide : 93 < 120) (Nat.le_add_right _ _)
theorem L_94 : LAY 94 = kR 3 [some 95, some 97, some 99, some 101] := rfl
theorem n_94 {g : GE} : 94 < NN g := Nat.lt_of_lt_of_le (by decide : 94 < 120) (Nat.le_add_right _ _)
theorem L_95 : LAY 95 = kO 4 [some (some 96), none] := rfl
theorem n_95 {g : GE} : 95 < NN g := Nat.lt_of_lt_of_le (by decide : 95 < 120) (Nat.le_add_right _ _)
theorem L_96 : LAY 96 = kA 0 120 := rfl
theorem n_96 {g : GE} : 96 < NN g := Nat.lt_of_lt_of_le (by decide : 96 < 120) (Nat.le_add_right _ _)
theorem L_97 : LAY 97 = kO 4 [some (some 98), none] := rfl
theorem n_97 {g : GE} : 97 < NN g := Nat.lt_of_lt_of_le (by decide : 97 < 120) (Nat.le_add_right _ _)
theorem L_98 : LAY 98 = kA 0 120 := rfl
theorem n_98 {g : GE} : 98 < NN g := Nat.lt_of_lt_of_le (by decide : 98 < 120) (Nat.le_add_right _ _)
theorem L_99 : LAY 99 = kO 4 [some (some 100), none] := rfl
theorem n_99 {g : GE} : 99 < NN g := Nat.lt_of_lt_of_le (by decide : 99 < 120) (Nat.le_add_right _ _)
theorem L_100 : LAY 100 = kA 0 120 := rfl
theorem n_100 {g : GE} : 100 < NN g := Nat.lt_of_lt_of_le (by decide : 100 < 120) (Nat.le_add_right _ _)
theorem L_101 : LAY 101 = kO 4 [some (some 102), none] := rfl
theorem n_101 {g : GE} : 101 < NN g := Nat.lt_of_lt_of_le (by decide : 101 < 120) (Nat.le_add_right _ _)
theorem L_102 : LAY 102 = kA 0 120 := rfl
theorem n_102 {g : GE} : 102 < NN g := Nat.lt_of_lt_of_le (by decide : 102 < 120) (Nat.le_add_right _ _)
theorem L_103 : LAY 103 = kA 1 2 := rfl
theorem n_103 {g : GE} : 103 < NN g := Nat.lt_of_lt_of_le (by decide : 103 < 120) (Nat.le_add_right _ _)
theorem L_104 : LAY 104 = kO 0 [some (some 105), none, some (some 106), some (some 107), some (some 108), none] := rfl
theorem n_104 {g : GE} : 104 < NN g := Nat.lt_of_lt_of_le (by decide : 104 < 120) (Nat.le_add_right _ _)
theorem L_105 : LAY 105 = kA 0 60 := rfl
theorem n_105 {g : GE} : 105 < NN g := Nat.lt_of_lt_of_le (by decide : 105 < 120) (Nat.le_add_right _ _)
theorem L_106 : LAY 106 = kA 0 4 := rfl
theorem n_106 {g : GE} : 106 < NN g := Nat.lt_of_lt_of_le (by decide : 106 < 120) (Nat.le_add_right _ _)
theorem L_107 : LAY 107 = kA 0 4 := rfl
theorem n_107 {g : GE} : 107 < NN g := Nat.lt_of_lt_of_le (by decide : 107 < 120) (Nat.le_add_right _ _)
theorem L_108 : LAY 108 = kA 0 4 := rfl
theorem n_108 {g : GE} : 108 < NN g := Nat.lt_of_lt_of_le (by decide : 108 < 120) (Nat.le_add_right _ _)
theorem L_109 : LAY 109 = kO 2 [some (some 110), some (some 111), some (some 112), some (some 113)] := rfl
theorem n_109 {g : GE} : 109 < NN g := Nat.lt_of_lt_of_le (by decide : 109 < 120) (Nat.le_add_right _ _)
theorem L_110 : LAY 110 = kA 0 7260 := rfl
theorem n_110 {g : GE} : 110 < NN g := Nat.lt_of_lt_of_le (by decide : 110 < 120) (Nat.le_add_right _ _)
theorem L_111 : LAY 111 = kA 0 120 := rfl
theorem n_111 {g : GE} : 111 < NN g := Nat.lt_of_lt_of_le (by decide : 111 < 120) (Nat.le_add_right _ _)
theorem L_112 : LAY 112 = kA 0 120 := rfl
theorem n_112 {g : GE} : 112 < NN g := Nat.lt_of_lt_of_le (by decide : 112 < 120) (Nat.le_add_right _ _)
theorem L_113 : LAY 113 = kA 0 12 := rfl
theorem n_113 {g : GE} : 113 < NN g := Nat.lt_of_lt_of_le (by decide : 113 < 120) (Nat.le_add_right _ _)
theorem L_114 : LAY 114 = kO 4 [some (some 115), none] := rfl
theorem n_114 {g : GE} : 114 < NN g := Nat.lt_of_lt_of_le (by decide : 114 < 120) (Nat.le_add_right _ _)
theorem L_115 : LAY 115 = kA 0 480 := rfl
theorem n_115 {g : GE} : 115 < NN g := Nat.lt_of_lt_of_le (by decide : 115 < 120) (Nat.le_add_right _ _)
theorem L_116 : LAY 116 = kO 4 [some (some 117), none] := rfl
theorem n_116 {g : GE} : 116 < NN g := Nat.lt_of_lt_of_le (by decide : 116 < 120) (Nat.le_add_right _ _)
theorem L_117 : LAY 117 = kA 0 480 := rfl
theorem n_117 {g : GE} : 117 < NN g := Nat.lt_of_lt_of_le (by decide : 117 < 120) (Nat.le_add_right _ _)
theorem L_118 : LAY 118 = kO 4 [some (some 119), none] := rfl
theorem n_118 {g : GE} : 118 < NN g := Nat.lt_of_lt_of_le (by decide : 118 < 120) (Nat.le_add_right _ _)
theorem L_119 : LAY 119 = kA 0 480 := rfl
theorem n_119 {g : GE} : 119 < NN g := Nat.lt_of_lt_of_le (by decide : 119 < 120) (Nat.le_add_right _ _)
/-- a word at i, with room for cap crossings -/
def IsW (g : GE) (i cap : Nat) : Prop := LAY i = kO 4 [some (some (i + 1)), none] ∧ LAY (i + 1) = kA 0 cap ∧ i < NN g ∧ i + 1 < NN g ∧ cap ≤ 480
/-- a state at s: widths, ropes -/
def IsS (g : GE) (s : Nat) : Prop := LAY s = kO 3 [some (some (s + 1)), some (some (s + 2))] ∧ LAY (s + 1) = kA 0 6 ∧ LAY (s + 2) = kR 3 [some (s + 3), some (s + 5), some (s + 7), some (s + 9)] ∧ s < NN g ∧ s + 1 < NN g ∧ s + 2 < NN g ∧ IsW g (s + 3) 120 ∧ IsW g (s + 5) 120 ∧ IsW g (s + 7) 120 ∧ IsW g (s + 9) 120
theorem isW_114 {g : GE} : IsW g 114 480 := ⟨rfl, rfl, n_114, n_115, by decide⟩
theorem isW_116 {g : GE} : IsW g 116 480 := ⟨rfl, rfl, n_116, n_117, by decide⟩
theorem isW_118 {g : GE} : IsW g 118 480 := ⟨rfl, rfl, n_118, n_119, by decide⟩
theorem isS_1 {g : GE} : IsS g 1 := ⟨rfl, rfl, rfl, n_1, n_2, n_3, ⟨rfl, rfl, n_4, n_5, by decide⟩, ⟨rfl, rfl, n_6, n_7, by decide⟩, ⟨rfl, rfl, n_8, n_9, by decide⟩, ⟨rfl, rfl, n_10, n_11, by decide⟩⟩
theorem isS_14 {g : GE} : IsS g 14 := ⟨rfl, rfl, rfl, n_14, n_15, n_16, ⟨rfl, rfl, n_17, n_18, by decide⟩, ⟨rfl, rfl, n_19, n_20, by decide⟩, ⟨rfl, rfl, n_21, n_22, by decide⟩, ⟨rfl, rfl, n_23, n_24, by decide⟩⟩
theorem isS_25 {g : GE} : IsS g 25 := ⟨rfl, rfl, rfl, n_25, n_26, n_27, ⟨rfl, rfl, n_28, n_29, by decide⟩, ⟨rfl, rfl, n_30, n_31, by decide⟩, ⟨rfl, rfl, n_32, n_33, by decide⟩, ⟨rfl, rfl, n_34, n_35, by decide⟩⟩
theorem isS_36 {g : GE} : IsS g 36 := ⟨rfl, rfl, rfl, n_36, n_37, n_38, ⟨rfl, rfl, n_39, n_40, by decide⟩, ⟨rfl, rfl, n_41, n_42, by decide⟩, ⟨rfl, rfl, n_43, n_44, by decide⟩, ⟨rfl, rfl, n_45, n_46, by decide⟩⟩
theorem isS_47 {g : GE} : IsS g 47 := ⟨rfl, rfl, rfl, n_47, n_48, n_49, ⟨rfl, rfl, n_50, n_51, by decide⟩, ⟨rfl, rfl, n_52, n_53, by decide⟩, ⟨rfl, rfl, n_54, n_55, by decide⟩, ⟨rfl, rfl, n_56, n_57, by decide⟩⟩
theorem isS_58 {g : GE} : IsS g 58 := ⟨rfl, rfl, rfl, n_58, n_59, n_60, ⟨rfl, rfl, n_61, n_62, by decide⟩, ⟨rfl, rfl, n_63, n_64, by decide⟩, ⟨rfl, rfl, n_65, n_66, by decide⟩, ⟨rfl, rfl, n_67, n_68, by decide⟩⟩
theorem isS_69 {g : GE} : IsS g 69 := ⟨rfl, rfl, rfl, n_69, n_70, n_71, ⟨rfl, rfl, n_72, n_73, by decide⟩, ⟨rfl, rfl, n_74, n_75, by decide⟩, ⟨rfl, rfl, n_76, n_77, by decide⟩, ⟨rfl, rfl, n_78, n_79, by decide⟩⟩
theorem isS_81 {g : GE} : IsS g 81 := ⟨rfl, rfl, rfl, n_81, n_82, n_83, ⟨rfl, rfl, n_84, n_85, by decide⟩, ⟨rfl, rfl, n_86, n_87, by decide⟩, ⟨rfl, rfl, n_88, n_89, by decide⟩, ⟨rfl, rfl, n_90, n_91, by decide⟩⟩
theorem isS_92 {g : GE} : IsS g 92 := ⟨rfl, rfl, rfl, n_92, n_93, n_94, ⟨rfl, rfl, n_95, n_96, by decide⟩, ⟨rfl, rfl, n_97, n_98, by decide⟩, ⟨rfl, rfl, n_99, n_100, by decide⟩, ⟨rfl, rfl, n_101, n_102, by decide⟩⟩
/-- contracts over the run's world: an int (or boolean) comes back, or nothing -/
def Pi (g : GE) (post : Int → Mem → Prop) : Option Value → Lay → Nat → Mem → Prop := fun r L n M' => L = LAY ∧ n = NN g ∧ ∃ z, r = some (vI z) ∧ post z M'
def Pv (g : GE) (post : Mem → Prop) : Option Value → Lay → Nat → Mem → Prop := fun r L n M' => L = LAY ∧ n = NN g ∧ r = none ∧ post M'
def Ci (g : GE) (l : Launch) (μ : Mu) (av : List Value) (M : Mem) (post : Int → Mem → Prop) : Prop := Ct g l μ 0 0 av LAY (NN g) M (Pi g post)
def Cv (g : GE) (l : Launch) (μ : Mu) (av : List Value) (M : Mem) (post : Mem → Prop) : Prop := Ct g l μ 0 0 av LAY (NN g) M (Pv g post)
/-- nothing changes -/
def Cp (g : GE) (l : Launch) (μ : Mu) (av : List Value) (M : Mem) (e : Int) : Prop := Ci g l μ av M (fun z M' => z = e ∧ M' = M)
theorem Ci.of {g : GE} {l : Launch} {μ : Mu} {av : List Value} {M : Mem} {post : Int → Mem → Prop} (hy : plainName μ.1.cls = true) (hav : Nat.ble (lg_sl av).length μ.2.2.1 = true) {ls : List (Nat × Value)} (hls : lv_args 0 av = ls)
    (body : ∀ x : Fx, Cx x g μ.2.1 μ.1.cls μ.2.2.1 (mRm μ 0 0) → Rx x g 0 0 μ.2.2.2.1 (Pi g post) → K x g 0 0 LAY (NN g) M 0 ls []) : Ci g l μ av M post := Ct.of hy hav (fun x _ hx _ hr => hls ▸ body x hx hr)
theorem Cv.of {g : GE} {l : Launch} {μ : Mu} {av : List Value} {M : Mem} {post : Mem → Prop} (hy : plainName μ.1.cls = true) (hav : Nat.ble (lg_sl av).length μ.2.2.1 = true) {ls : List (Nat × Value)} (hls : lv_args 0 av = ls)
    (body : ∀ x : Fx, Cx x g μ.2.1 μ.1.cls μ.2.2.1 (mRm μ 0 0) → Rx x g 0 0 μ.2.2.2.1 (Pv g post) → K x g 0 0 LAY (NN g) M 0 ls []) : Cv g l μ av M post := Ct.of hy hav (fun x _ hx _ hr => hls ▸ body x hx hr)
section STEADY
variable {x : Fx} {g : GE} {cc : ByteArray} {own : String} {nL : Nat} {R : Room} {cs sl : Nat} {M : Mem} {pc pc' index na ci i : Nat} {ls : List (Nat × Value)} {st rest As av : List Value} {μ : Mu} {L : Lay} {n : Nat}
theorem k_ri {post : Int → Mem → Prop} (hx : Cx x g cc own nL R) (hm : Rx x g 0 0 (some .int) (Pi g post)) {z : Int} (hd : At cc pc .ireturn 1 (pc + 1)) (hp : post z M) : K x g 0 0 LAY (NN g) M pc ls [vI z] := k_iret hx hm hd ⟨rfl, rfl, z, rfl, hp⟩
theorem k_rz {post : Int → Mem → Prop} (hx : Cx x g cc own nL R) (hm : Rx x g 0 0 (some .boolean) (Pi g post)) {z : Int} (hd : At cc pc .ireturn 1 (pc + 1)) (hz : z = 0 ∨ z = 1) (hp : post z M) : K x g 0 0 LAY (NN g) M pc ls [vI z] := k_zret hx hm hd hz ⟨rfl, rfl, z, rfl, hp⟩
theorem k_rv {post : Mem → Prop} (hx : Cx x g cc own nL R) (hm : Rx x g 0 0 none (Pv g post)) (hd : At cc pc .return_ 1 (pc + 1)) (hp : post M) : K x g 0 0 LAY (NN g) M pc ls [] := k_vret hx hm hd ⟨rfl, rfl, rfl, hp⟩
theorem k_vi {post : Int → Mem → Prop} (hx : Cx x g cc own nL R) (hlk : lkV own index μ ci na) (hd : At cc pc (.invokevirtual index) 3 pc') (hC : Ci g (xL x) μ (vR g i :: As) M post) {fs : List FS} (hi : i < NN g) (hL : LAY i = kO ci fs) (hn : As.length = na) (hst : st = As.reverse ++ vR g i :: rest) (hcat : Nat.ble (rest.map fun v => v.category).sum 8 = true) (hroom : Nat.ble (μ.2.2.2.2.1 + 1) R.frames = true ∧ Nat.ble (8 + (μ.2.2.1 + 11) + μ.2.2.2.2.2) R.locals = true) (hcell : cs ≤ R.cells ∧ sl ≤ R.slots)
    (kk : ∀ (z : Int) (M' : Mem), post z M' → K x g cs sl LAY (NN g) M' pc' ls (vI z :: rest)) : K x g cs sl LAY (NN g) M pc ls st :=
  k_callV hx hlk hd hC hi hL hn hst hcat hroom hcell (fun r L' n' M' ⟨h1, h2, z, h3, h4⟩ => by subst h1; subst h2; subst h3; exact kk z M' h4)
theorem k_vp {e : Int} (hx : Cx x g cc own nL R) (hlk : lkV own index μ ci na) (hd : At cc pc (.invokevirtual index) 3 pc') (hC : Cp g (xL x) μ (vR g i :: As) M e) {fs : List FS} (hi : i < NN g) (hL : LAY i = kO ci fs) (hn : As.length = na) (hst : st = As.reverse ++ vR g i :: rest) (hcat : Nat.ble (rest.map fun v => v.category).sum 8 = true) (hroom : Nat.ble (μ.2.2.2.2.1 + 1) R.frames = true ∧ Nat.ble (8 + (μ.2.2.1 + 11) + μ.2.2.2.2.2) R.locals = true) (hcell : cs ≤ R.cells ∧ sl ≤ R.slots)
    (kk : K x g cs sl LAY (NN g) M pc' ls (vI e :: rest)) : K x g cs sl LAY (NN g) M pc ls st :=
  k_vi hx hlk hd hC hi hL hn hst hcat hroom hcell (fun z M' ⟨h1, h2⟩ => by subst h1; subst h2; exact kk)
theorem k_vv {post : Mem → Prop} (hx : Cx x g cc own nL R) (hlk : lkV own index μ ci na) (hd : At cc pc (.invokevirtual index) 3 pc') (hC : Cv g (xL x) μ (vR g i :: As) M post) {fs : List FS} (hi : i < NN g) (hL : LAY i = kO ci fs) (hn : As.length = na) (hst : st = As.reverse ++ vR g i :: rest) (hcat : Nat.ble (rest.map fun v => v.category).sum 8 = true) (hroom : Nat.ble (μ.2.2.2.2.1 + 1) R.frames = true ∧ Nat.ble (8 + (μ.2.2.1 + 11) + μ.2.2.2.2.2) R.locals = true) (hcell : cs ≤ R.cells ∧ sl ≤ R.slots)
    (kk : ∀ (M' : Mem), post M' → K x g cs sl LAY (NN g) M' pc' ls rest) : K x g cs sl LAY (NN g) M pc ls st :=
  k_callV hx hlk hd hC hi hL hn hst hcat hroom hcell (fun r L' n' M' ⟨h1, h2, h3, h4⟩ => by subst h1; subst h2; subst h3; exact kk M' h4)
theorem k_si {post : Int → Mem → Prop} (hx : Cx x g cc own nL R) (hlk : lkS own index μ na) (hd : At cc pc (.invokestatic index) 3 pc') (hC : Ci g (xL x) μ As M post) (hn : As.length = na) (hst : st = As.reverse ++ rest) (hcat : Nat.ble (rest.map fun v => v.category).sum 8 = true) (hroom : Nat.ble (μ.2.2.2.2.1 + 1) R.frames = true ∧ Nat.ble (8 + (μ.2.2.1 + 11) + μ.2.2.2.2.2) R.locals = true) (hcell : cs ≤ R.cells ∧ sl ≤ R.slots)
    (kk : ∀ (z : Int) (M' : Mem), post z M' → K x g cs sl LAY (NN g) M' pc' ls (vI z :: rest)) : K x g cs sl LAY (NN g) M pc ls st :=
  k_callS hx hlk hd hC hn hst hcat hroom hcell (fun r L' n' M' ⟨h1, h2, z, h3, h4⟩ => by subst h1; subst h2; subst h3; exact kk z M' h4)
theorem k_sp {e : Int} (hx : Cx x g cc own nL R) (hlk : lkS own index μ na) (hd : At cc pc (.invokestatic index) 3 pc') (hC : Cp g (xL x) μ As M e) (hn : As.length = na) (hst : st = As.reverse ++ rest) (hcat : Nat.ble (rest.map fun v => v.category).sum 8 = true) (hroom : Nat.ble (μ.2.2.2.2.1 + 1) R.frames = true ∧ Nat.ble (8 + (μ.2.2.1 + 11) + μ.2.2.2.2.2) R.locals = true) (hcell : cs ≤ R.cells ∧ sl ≤ R.slots)
    (kk : K x g cs sl LAY (NN g) M pc' ls (vI e :: rest)) : K x g cs sl LAY (NN g) M pc ls st :=
  k_si hx hlk hd hC hn hst hcat hroom hcell (fun z M' ⟨h1, h2⟩ => by subst h1; subst h2; exact kk)
theorem k_np {e : Int} {host : String} (hx : Cx x g cc own nL R) (hlk : lkN own index μ host na) (hd : At cc pc (.invokestatic index) 3 pc') (hC : Cp g (xL x) μ As M e) (hn : As.length = na) (hst : st = As.reverse ++ rest) (hcat : Nat.ble (rest.map fun v => v.category).sum 8 = true) (hroom : Nat.ble (μ.2.2.2.2.1 + 1) R.frames = true ∧ Nat.ble (8 + (μ.2.2.1 + 11) + μ.2.2.2.2.2) R.locals = true) (hcell : cs ≤ R.cells ∧ sl ≤ R.slots)
    (kk : K x g cs sl LAY (NN g) M pc' ls (vI e :: rest)) : K x g cs sl LAY (NN g) M pc ls st :=
  k_callN hx hlk hd hC hn hst hcat hroom hcell (fun r L' n' M' ⟨h1, h2, z, h3, h4, h5⟩ => by subst h1; subst h2; subst h3; subst h4; subst h5; exact kk)
/-- stores, the new numbers under a name -/
theorem k_putI {k : Nat} {kz : Int} {fs : List FS} {z : Int} (hx : Cx x g cc own nL R) (hf : FL own index ci k false .int) (hd : At cc pc (.putfield index) 3 pc') (hi : i < n) (hL : L i = kO ci fs) (hn : fs.getD k none = none) (hkz : (k : Int) = kz) (kk : ∀ M', M' = up M i kz z → K x g cs sl L n M' pc' ls st) : K x g cs sl L n M pc ls (vI z :: vR g i :: st) := by subst hkz; exact k_put hx hf hd hi hL hn ⟨rfl, rfl⟩ (kk _ rfl)
theorem k_putZ {k : Nat} {kz : Int} {fs : List FS} {z : Int} (hx : Cx x g cc own nL R) (hf : FL own index ci k false .boolean) (hd : At cc pc (.putfield index) 3 pc') (hi : i < n) (hL : L i = kO ci fs) (hn : fs.getD k none = none) (hkz : (k : Int) = kz) (hz : z = 0 ∨ z = 1) (kk : ∀ M', M' = up M i kz z → K x g cs sl L n M' pc' ls st) : K x g cs sl L n M pc ls (vI z :: vR g i :: st) := by subst hkz; exact k_put hx hf hd hi hL hn (by rcases hz with rfl | rfl <;> decide +kernel) (kk _ rfl)
theorem k_iastN {N : Nat} {z v : Int} (hx : Cx x g cc own nL R) (hd : At cc pc .iastore 1 pc') (hi : i < n) (hL : L i = kA 0 N) (hz : 0 ≤ z ∧ z < N) (hN : N ≤ 2147483647) (kk : ∀ M', M' = up M i z v → K x g cs sl L n M' pc' ls st) : K x g cs sl L n M pc ls (vI v :: vI z :: vR g i :: st) := k_iast hx hd hi hL hz hN (kk _ rfl)
theorem k_zastN {N : Nat} {z v : Int} (hx : Cx x g cc own nL R) (hd : At cc pc .bastore 1 pc') (hi : i < n) (hL : L i = kA 1 N) (hz : 0 ≤ z ∧ z < N) (hN : N ≤ 2147483647) (hv : v = 0 ∨ v = 1) (kk : ∀ M', M' = up M i z v → K x g cs sl L n M' pc' ls st) : K x g cs sl L n M pc ls (vI v :: vI z :: vR g i :: st) := k_zast hx hd hi hL hz hN hv (kk _ rfl)
end STEADY

