/-! the layout of the run: the class first (120 cells), the reference behind it -/
def LY : List LK := [kO 5 [some (some 1), some (some 12), some (some 80), some (some 103), some (some 104), some (some 109), some (some 114), some (some 116), some (some 118)],
  kO 3 [some (some 2), some (some 3)],
  kA 0 6,
  kR 3 [some 4, some 6, some 8, some 10],
  kO 4 [some (some 5), none],
  kA 0 120,
  kO 4 [some (some 7), none],
  kA 0 120,
  kO 4 [some (some 9), none],
  kA 0 120,
  kO 4 [some (some 11), none],
  kA 0 120,
  kO 1 [some (some 13), none, none],
  kR 2 [some 14, some 25, some 36, some 47, some 58, some 69],
  kO 3 [some (some 15), some (some 16)],
  kA 0 6,
  kR 3 [some 17, some 19, some 21, some 23],
  kO 4 [some (some 18), none],
  kA 0 120,
  kO 4 [some (some 20), none],
  kA 0 120,
  kO 4 [some (some 22), none],
  kA 0 120,
  kO 4 [some (some 24), none],
  kA 0 120,
  kO 3 [some (some 26), some (some 27)],
  kA 0 6,
  kR 3 [some 28, some 30, some 32, some 34],
  kO 4 [some (some 29), none],
  kA 0 120,
  kO 4 [some (some 31), none],
  kA 0 120,
  kO 4 [some (some 33), none],
  kA 0 120,
  kO 4 [some (some 35), none],
  kA 0 120,
  kO 3 [some (some 37), some (some 38)],
  kA 0 6,
  kR 3 [some 39, some 41, some 43, some 45],
  kO 4 [some (some 40), none],
  kA 0 120,
  kO 4 [some (some 42), none],
  kA 0 120,
  kO 4 [some (some 44), none],
  kA 0 120,
  kO 4 [some (some 46), none],
  kA 0 120,
  kO 3 [some (some 48), some (some 49)],
  kA 0 6,
  kR 3 [some 50, some 52, some 54, some 56],
  kO 4 [some (some 51), none],
  kA 0 120,
  kO 4 [some (some 53), none],
  kA 0 120,
  kO 4 [some (some 55), none],
  kA 0 120,
  kO 4 [some (some 57), none],
  kA 0 120,
  kO 3 [some (some 59), some (some 60)],
  kA 0 6,
  kR 3 [some 61, some 63, some 65, some 67],
  kO 4 [some (some 62), none],
  kA 0 120,
  kO 4 [some (some 64), none],
  kA 0 120,
  kO 4 [some (some 66), none],
  kA 0 120,
  kO 4 [some (some 68), none],
  kA 0 120,
  kO 3 [some (some 70), some (some 71)],
  kA 0 6,
  kR 3 [some 72, some 74, some 76, some 78],
  kO 4 [some (some 73), none],
  kA 0 120,
  kO 4 [some (some 75), none],
  kA 0 120,
  kO 4 [some (some 77), none],
  kA 0 120,
  kO 4 [some (some 79), none],
  kA 0 120,
  kR 2 [some 81, some 92],
  kO 3 [some (some 82), some (some 83)],
  kA 0 6,
  kR 3 [some 84, some 86, some 88, some 90],
  kO 4 [some (some 85), none],
  kA 0 120,
  kO 4 [some (some 87), none],
  kA 0 120,
  kO 4 [some (some 89), none],
  kA 0 120,
  kO 4 [some (some 91), none],
  kA 0 120,
  kO 3 [some (some 93), some (some 94)],
  kA 0 6,
  kR 3 [some 95, some 97, some 99, some 101],
  kO 4 [some (some 96), none],
  kA 0 120,
  kO 4 [some (some 98), none],
  kA 0 120,
  kO 4 [some (some 100), none],
  kA 0 120,
  kO 4 [some (some 102), none],
  kA 0 120,
  kA 1 2,
  kO 0 [some (some 105), none, some (some 106), some (some 107), some (some 108), none],
  kA 0 60,
  kA 0 4,
  kA 0 4,
  kA 0 4,
  kO 2 [some (some 110), some (some 111), some (some 112), some (some 113)],
  kA 0 7260,
  kA 0 120,
  kA 0 120,
  kA 0 12,
  kO 4 [some (some 115), none],
  kA 0 480,
  kO 4 [some (some 117), none],
  kA 0 480,
  kO 4 [some (some 119), none],
  kA 0 480,
  kO 6 [some (some 121), some (some 122), none, some (some 123), some (some 124), some (some 125), none, some (some 126), none, some (some 127), none, some (some 128), none, some (some 129), none, none, some (some 130), some (some 131), some (some 132), some (some 133)],
  kA 0 490,
  kA 0 2940,
  kA 0 980,
  kA 1 2,
  kA 0 60,
  kA 0 1000,
  kA 0 120,
  kA 0 120,
  kA 0 1000,
  kA 0 4,
  kA 0 4,
  kA 0 4,
  kA 0 14641]
def LAY : Lay := fun i => LY.getD i (kA 0 0)
abbrev NN : Nat := 134
theorem L_0 : LAY 0 = kO 5 [some (some 1), some (some 12), some (some 80), some (some 103), some (some 104), some (some 109), some (some 114), some (some 116), some (some 118)] := rfl
theorem n_0 : 0 < NN := by decide
theorem L_1 : LAY 1 = kO 3 [some (some 2), some (some 3)] := rfl
theorem n_1 : 1 < NN := by decide
theorem L_2 : LAY 2 = kA 0 6 := rfl
theorem n_2 : 2 < NN := by decide
theorem L_3 : LAY 3 = kR 3 [some 4, some 6, some 8, some 10] := rfl
theorem n_3 : 3 < NN := by decide
theorem L_4 : LAY 4 = kO 4 [some (some 5), none] := rfl
theorem n_4 : 4 < NN := by decide
theorem L_5 : LAY 5 = kA 0 120 := rfl
theorem n_5 : 5 < NN := by decide
theorem L_6 : LAY 6 = kO 4 [some (some 7), none] := rfl
theorem n_6 : 6 < NN := by decide
theorem L_7 : LAY 7 = kA 0 120 := rfl
theorem n_7 : 7 < NN := by decide
theorem L_8 : LAY 8 = kO 4 [some (some 9), none] := rfl
theorem n_8 : 8 < NN := by decide
theorem L_9 : LAY 9 = kA 0 120 := rfl
theorem n_9 : 9 < NN := by decide
theorem L_10 : LAY 10 = kO 4 [some (some 11), none] := rfl
theorem n_10 : 10 < NN := by decide
theorem L_11 : LAY 11 = kA 0 120 := rfl
theorem n_11 : 11 < NN := by decide
theorem L_12 : LAY 12 = kO 1 [some (some 13), none, none] := rfl
theorem n_12 : 12 < NN := by decide
theorem L_13 : LAY 13 = kR 2 [some 14, some 25, some 36, some 47, some 58, some 69] := rfl
theorem n_13 : 13 < NN := by decide
theorem L_14 : LAY 14 = kO 3 [some (some 15), some (some 16)] := rfl
theorem n_14 : 14 < NN := by decide
theorem L_15 : LAY 15 = kA 0 6 := rfl
theorem n_15 : 15 < NN := by decide
theorem L_16 : LAY 16 = kR 3 [some 17, some 19, some 21, some 23] := rfl
theorem n_16 : 16 < NN := by decide
theorem L_17 : LAY 17 = kO 4 [some (some 18), none] := rfl
theorem n_17 : 17 < NN := by decide
theorem L_18 : LAY 18 = kA 0 120 := rfl
theorem n_18 : 18 < NN := by decide
theorem L_19 : LAY 19 = kO 4 [some (some 20), none] := rfl
theorem n_19 : 19 < NN := by decide
theorem L_20 : LAY 20 = kA 0 120 := rfl
theorem n_20 : 20 < NN := by decide
theorem L_21 : LAY 21 = kO 4 [some (some 22), none] := rfl
theorem n_21 : 21 < NN := by decide
theorem L_22 : LAY 22 = kA 0 120 := rfl
theorem n_22 : 22 < NN := by decide
theorem L_23 : LAY 23 = kO 4 [some (some 24), none] := rfl
theorem n_23 : 23 < NN := by decide
theorem L_24 : LAY 24 = kA 0 120 := rfl
theorem n_24 : 24 < NN := by decide
theorem L_25 : LAY 25 = kO 3 [some (some 26), some (some 27)] := rfl
theorem n_25 : 25 < NN := by decide
theorem L_26 : LAY 26 = kA 0 6 := rfl
theorem n_26 : 26 < NN := by decide
theorem L_27 : LAY 27 = kR 3 [some 28, some 30, some 32, some 34] := rfl
theorem n_27 : 27 < NN := by decide
theorem L_28 : LAY 28 = kO 4 [some (some 29), none] := rfl
theorem n_28 : 28 < NN := by decide
theorem L_29 : LAY 29 = kA 0 120 := rfl
theorem n_29 : 29 < NN := by decide
theorem L_30 : LAY 30 = kO 4 [some (some 31), none] := rfl
theorem n_30 : 30 < NN := by decide
theorem L_31 : LAY 31 = kA 0 120 := rfl
theorem n_31 : 31 < NN := by decide
theorem L_32 : LAY 32 = kO 4 [some (some 33), none] := rfl
theorem n_32 : 32 < NN := by decide
theorem L_33 : LAY 33 = kA 0 120 := rfl
theorem n_33 : 33 < NN := by decide
theorem L_34 : LAY 34 = kO 4 [some (some 35), none] := rfl
theorem n_34 : 34 < NN := by decide
theorem L_35 : LAY 35 = kA 0 120 := rfl
theorem n_35 : 35 < NN := by decide
theorem L_36 : LAY 36 = kO 3 [some (some 37), some (some 38)] := rfl
theorem n_36 : 36 < NN := by decide
theorem L_37 : LAY 37 = kA 0 6 := rfl
theorem n_37 : 37 < NN := by decide
theorem L_38 : LAY 38 = kR 3 [some 39, some 41, some 43, some 45] := rfl
theorem n_38 : 38 < NN := by decide
theorem L_39 : LAY 39 = kO 4 [some (some 40), none] := rfl
theorem n_39 : 39 < NN := by decide
theorem L_40 : LAY 40 = kA 0 120 := rfl
theorem n_40 : 40 < NN := by decide
theorem L_41 : LAY 41 = kO 4 [some (some 42), none] := rfl
theorem n_41 : 41 < NN := by decide
theorem L_42 : LAY 42 = kA 0 120 := rfl
theorem n_42 : 42 < NN := by decide
theorem L_43 : LAY 43 = kO 4 [some (some 44), none] := rfl
theorem n_43 : 43 < NN := by decide
theorem L_44 : LAY 44 = kA 0 120 := rfl
theorem n_44 : 44 < NN := by decide
theorem L_45 : LAY 45 = kO 4 [some (some 46), none] := rfl
theorem n_45 : 45 < NN := by decide
theorem L_46 : LAY 46 = kA 0 120 := rfl
theorem n_46 : 46 < NN := by decide
theorem L_47 : LAY 47 = kO 3 [some (some 48), some (some 49)] := rfl
theorem n_47 : 47 < NN := by decide
theorem L_48 : LAY 48 = kA 0 6 := rfl
theorem n_48 : 48 < NN := by decide
theorem L_49 : LAY 49 = kR 3 [some 50, some 52, some 54, some 56] := rfl
theorem n_49 : 49 < NN := by decide
theorem L_50 : LAY 50 = kO 4 [some (some 51), none] := rfl
theorem n_50 : 50 < NN := by decide
theorem L_51 : LAY 51 = kA 0 120 := rfl
theorem n_51 : 51 < NN := by decide
theorem L_52 : LAY 52 = kO 4 [some (some 53), none] := rfl
theorem n_52 : 52 < NN := by decide
theorem L_53 : LAY 53 = kA 0 120 := rfl
theorem n_53 : 53 < NN := by decide
theorem L_54 : LAY 54 = kO 4 [some (some 55), none] := rfl
theorem n_54 : 54 < NN := by decide
theorem L_55 : LAY 55 = kA 0 120 := rfl
theorem n_55 : 55 < NN := by decide
theorem L_56 : LAY 56 = kO 4 [some (some 57), none] := rfl
theorem n_56 : 56 < NN := by decide
theorem L_57 : LAY 57 = kA 0 120 := rfl
theorem n_57 : 57 < NN := by decide
theorem L_58 : LAY 58 = kO 3 [some (some 59), some (some 60)] := rfl
theorem n_58 : 58 < NN := by decide
theorem L_59 : LAY 59 = kA 0 6 := rfl
theorem n_59 : 59 < NN := by decide
theorem L_60 : LAY 60 = kR 3 [some 61, some 63, some 65, some 67] := rfl
theorem n_60 : 60 < NN := by decide
theorem L_61 : LAY 61 = kO 4 [some (some 62), none] := rfl
theorem n_61 : 61 < NN := by decide
theorem L_62 : LAY 62 = kA 0 120 := rfl
theorem n_62 : 62 < NN := by decide
theorem L_63 : LAY 63 = kO 4 [some (some 64), none] := rfl
theorem n_63 : 63 < NN := by decide
theorem L_64 : LAY 64 = kA 0 120 := rfl
theorem n_64 : 64 < NN := by decide
theorem L_65 : LAY 65 = kO 4 [some (some 66), none] := rfl
theorem n_65 : 65 < NN := by decide
theorem L_66 : LAY 66 = kA 0 120 := rfl
theorem n_66 : 66 < NN := by decide
theorem L_67 : LAY 67 = kO 4 [some (some 68), none] := rfl
theorem n_67 : 67 < NN := by decide
theorem L_68 : LAY 68 = kA 0 120 := rfl
theorem n_68 : 68 < NN := by decide
theorem L_69 : LAY 69 = kO 3 [some (some 70), some (some 71)] := rfl
theorem n_69 : 69 < NN := by decide
theorem L_70 : LAY 70 = kA 0 6 := rfl
theorem n_70 : 70 < NN := by decide
theorem L_71 : LAY 71 = kR 3 [some 72, some 74, some 76, some 78] := rfl
theorem n_71 : 71 < NN := by decide
theorem L_72 : LAY 72 = kO 4 [some (some 73), none] := rfl
theorem n_72 : 72 < NN := by decide
theorem L_73 : LAY 73 = kA 0 120 := rfl
theorem n_73 : 73 < NN := by decide
theorem L_74 : LAY 74 = kO 4 [some (some 75), none] := rfl
theorem n_74 : 74 < NN := by decide
theorem L_75 : LAY 75 = kA 0 120 := rfl
theorem n_75 : 75 < NN := by decide
theorem L_76 : LAY 76 = kO 4 [some (some 77), none] := rfl
theorem n_76 : 76 < NN := by decide
theorem L_77 : LAY 77 = kA 0 120 := rfl
theorem n_77 : 77 < NN := by decide
theorem L_78 : LAY 78 = kO 4 [some (some 79), none] := rfl
theorem n_78 : 78 < NN := by decide
theorem L_79 : LAY 79 = kA 0 120 := rfl
theorem n_79 : 79 < NN := by decide
theorem L_80 : LAY 80 = kR 2 [some 81, some 92] := rfl
theorem n_80 : 80 < NN := by decide
theorem L_81 : LAY 81 = kO 3 [some (some 82), some (some 83)] := rfl
theorem n_81 : 81 < NN := by decide
theorem L_82 : LAY 82 = kA 0 6 := rfl
theorem n_82 : 82 < NN := by decide
theorem L_83 : LAY 83 = kR 3 [some 84, some 86, some 88, some 90] := rfl
theorem n_83 : 83 < NN := by decide
theorem L_84 : LAY 84 = kO 4 [some (some 85), none] := rfl
theorem n_84 : 84 < NN := by decide
theorem L_85 : LAY 85 = kA 0 120 := rfl
theorem n_85 : 85 < NN := by decide
theorem L_86 : LAY 86 = kO 4 [some (some 87), none] := rfl
theorem n_86 : 86 < NN := by decide
theorem L_87 : LAY 87 = kA 0 120 := rfl
theorem n_87 : 87 < NN := by decide
theorem L_88 : LAY 88 = kO 4 [some (some 89), none] := rfl
theorem n_88 : 88 < NN := by decide
theorem L_89 : LAY 89 = kA 0 120 := rfl
theorem n_89 : 89 < NN := by decide
theorem L_90 : LAY 90 = kO 4 [some (some 91), none] := rfl
theorem n_90 : 90 < NN := by decide
theorem L_91 : LAY 91 = kA 0 120 := rfl
theorem n_91 : 91 < NN := by decide
theorem L_92 : LAY 92 = kO 3 [some (some 93), some (some 94)] := rfl
theorem n_92 : 92 < NN := by decide
theorem L_93 : LAY 93 = kA 0 6 := rfl
theorem n_93 : 93 < NN := by decide
theorem L_94 : LAY 94 = kR 3 [some 95, some 97, some 99, some 101] := rfl
theorem n_94 : 94 < NN := by decide
theorem L_95 : LAY 95 = kO 4 [some (some 96), none] := rfl
theorem n_95 : 95 < NN := by decide
theorem L_96 : LAY 96 = kA 0 120 := rfl
theorem n_96 : 96 < NN := by decide
theorem L_97 : LAY 97 = kO 4 [some (some 98), none] := rfl
theorem n_97 : 97 < NN := by decide
theorem L_98 : LAY 98 = kA 0 120 := rfl
theorem n_98 : 98 < NN := by decide
theorem L_99 : LAY 99 = kO 4 [some (some 100), none] := rfl
theorem n_99 : 99 < NN := by decide
theorem L_100 : LAY 100 = kA 0 120 := rfl
theorem n_100 : 100 < NN := by decide
theorem L_101 : LAY 101 = kO 4 [some (some 102), none] := rfl
theorem n_101 : 101 < NN := by decide
theorem L_102 : LAY 102 = kA 0 120 := rfl
theorem n_102 : 102 < NN := by decide
theorem L_103 : LAY 103 = kA 1 2 := rfl
theorem n_103 : 103 < NN := by decide
theorem L_104 : LAY 104 = kO 0 [some (some 105), none, some (some 106), some (some 107), some (some 108), none] := rfl
theorem n_104 : 104 < NN := by decide
theorem L_105 : LAY 105 = kA 0 60 := rfl
theorem n_105 : 105 < NN := by decide
theorem L_106 : LAY 106 = kA 0 4 := rfl
theorem n_106 : 106 < NN := by decide
theorem L_107 : LAY 107 = kA 0 4 := rfl
theorem n_107 : 107 < NN := by decide
theorem L_108 : LAY 108 = kA 0 4 := rfl
theorem n_108 : 108 < NN := by decide
theorem L_109 : LAY 109 = kO 2 [some (some 110), some (some 111), some (some 112), some (some 113)] := rfl
theorem n_109 : 109 < NN := by decide
theorem L_110 : LAY 110 = kA 0 7260 := rfl
theorem n_110 : 110 < NN := by decide
theorem L_111 : LAY 111 = kA 0 120 := rfl
theorem n_111 : 111 < NN := by decide
theorem L_112 : LAY 112 = kA 0 120 := rfl
theorem n_112 : 112 < NN := by decide
theorem L_113 : LAY 113 = kA 0 12 := rfl
theorem n_113 : 113 < NN := by decide
theorem L_114 : LAY 114 = kO 4 [some (some 115), none] := rfl
theorem n_114 : 114 < NN := by decide
theorem L_115 : LAY 115 = kA 0 480 := rfl
theorem n_115 : 115 < NN := by decide
theorem L_116 : LAY 116 = kO 4 [some (some 117), none] := rfl
theorem n_116 : 116 < NN := by decide
theorem L_117 : LAY 117 = kA 0 480 := rfl
theorem n_117 : 117 < NN := by decide
theorem L_118 : LAY 118 = kO 4 [some (some 119), none] := rfl
theorem n_118 : 118 < NN := by decide
theorem L_119 : LAY 119 = kA 0 480 := rfl
theorem n_119 : 119 < NN := by decide
theorem L_120 : LAY 120 = kO 6 [some (some 121), some (some 122), none, some (some 123), some (some 124), some (some 125), none, some (some 126), none, some (some 127), none, some (some 128), none, some (some 129), none, none, some (some 130), some (some 131), some (some 132), some (some 133)] := rfl
theorem n_120 : 120 < NN := by decide
theorem L_121 : LAY 121 = kA 0 490 := rfl
theorem n_121 : 121 < NN := by decide
theorem L_122 : LAY 122 = kA 0 2940 := rfl
theorem n_122 : 122 < NN := by decide
theorem L_123 : LAY 123 = kA 0 980 := rfl
theorem n_123 : 123 < NN := by decide
theorem L_124 : LAY 124 = kA 1 2 := rfl
theorem n_124 : 124 < NN := by decide
theorem L_125 : LAY 125 = kA 0 60 := rfl
theorem n_125 : 125 < NN := by decide
theorem L_126 : LAY 126 = kA 0 1000 := rfl
theorem n_126 : 126 < NN := by decide
theorem L_127 : LAY 127 = kA 0 120 := rfl
theorem n_127 : 127 < NN := by decide
theorem L_128 : LAY 128 = kA 0 120 := rfl
theorem n_128 : 128 < NN := by decide
theorem L_129 : LAY 129 = kA 0 1000 := rfl
theorem n_129 : 129 < NN := by decide
theorem L_130 : LAY 130 = kA 0 4 := rfl
theorem n_130 : 130 < NN := by decide
theorem L_131 : LAY 131 = kA 0 4 := rfl
theorem n_131 : 131 < NN := by decide
theorem L_132 : LAY 132 = kA 0 4 := rfl
theorem n_132 : 132 < NN := by decide
theorem L_133 : LAY 133 = kA 0 14641 := rfl
theorem n_133 : 133 < NN := by decide
/-- a word at i, with room for cap crossings -/
def IsW (i cap : Nat) : Prop := LAY i = kO 4 [some (some (i + 1)), none] ∧ LAY (i + 1) = kA 0 cap ∧ i < NN ∧ i + 1 < NN ∧ cap ≤ 480
/-- a state at s: widths, ropes -/
def IsS (s : Nat) : Prop := LAY s = kO 3 [some (some (s + 1)), some (some (s + 2))] ∧ LAY (s + 1) = kA 0 6 ∧ LAY (s + 2) = kR 3 [some (s + 3), some (s + 5), some (s + 7), some (s + 9)] ∧ s < NN ∧ s + 1 < NN ∧ s + 2 < NN ∧ IsW (s + 3) 120 ∧ IsW (s + 5) 120 ∧ IsW (s + 7) 120 ∧ IsW (s + 9) 120
theorem isW_114 : IsW 114 480 := ⟨rfl, rfl, by decide, by decide, by decide⟩
theorem isW_116 : IsW 116 480 := ⟨rfl, rfl, by decide, by decide, by decide⟩
theorem isW_118 : IsW 118 480 := ⟨rfl, rfl, by decide, by decide, by decide⟩
theorem isS_1 : IsS 1 := ⟨rfl, rfl, rfl, by decide, by decide, by decide, ⟨rfl, rfl, by decide, by decide, by decide⟩, ⟨rfl, rfl, by decide, by decide, by decide⟩, ⟨rfl, rfl, by decide, by decide, by decide⟩, ⟨rfl, rfl, by decide, by decide, by decide⟩⟩
theorem isS_14 : IsS 14 := ⟨rfl, rfl, rfl, by decide, by decide, by decide, ⟨rfl, rfl, by decide, by decide, by decide⟩, ⟨rfl, rfl, by decide, by decide, by decide⟩, ⟨rfl, rfl, by decide, by decide, by decide⟩, ⟨rfl, rfl, by decide, by decide, by decide⟩⟩
theorem isS_25 : IsS 25 := ⟨rfl, rfl, rfl, by decide, by decide, by decide, ⟨rfl, rfl, by decide, by decide, by decide⟩, ⟨rfl, rfl, by decide, by decide, by decide⟩, ⟨rfl, rfl, by decide, by decide, by decide⟩, ⟨rfl, rfl, by decide, by decide, by decide⟩⟩
theorem isS_36 : IsS 36 := ⟨rfl, rfl, rfl, by decide, by decide, by decide, ⟨rfl, rfl, by decide, by decide, by decide⟩, ⟨rfl, rfl, by decide, by decide, by decide⟩, ⟨rfl, rfl, by decide, by decide, by decide⟩, ⟨rfl, rfl, by decide, by decide, by decide⟩⟩
theorem isS_47 : IsS 47 := ⟨rfl, rfl, rfl, by decide, by decide, by decide, ⟨rfl, rfl, by decide, by decide, by decide⟩, ⟨rfl, rfl, by decide, by decide, by decide⟩, ⟨rfl, rfl, by decide, by decide, by decide⟩, ⟨rfl, rfl, by decide, by decide, by decide⟩⟩
theorem isS_58 : IsS 58 := ⟨rfl, rfl, rfl, by decide, by decide, by decide, ⟨rfl, rfl, by decide, by decide, by decide⟩, ⟨rfl, rfl, by decide, by decide, by decide⟩, ⟨rfl, rfl, by decide, by decide, by decide⟩, ⟨rfl, rfl, by decide, by decide, by decide⟩⟩
theorem isS_69 : IsS 69 := ⟨rfl, rfl, rfl, by decide, by decide, by decide, ⟨rfl, rfl, by decide, by decide, by decide⟩, ⟨rfl, rfl, by decide, by decide, by decide⟩, ⟨rfl, rfl, by decide, by decide, by decide⟩, ⟨rfl, rfl, by decide, by decide, by decide⟩⟩
theorem isS_81 : IsS 81 := ⟨rfl, rfl, rfl, by decide, by decide, by decide, ⟨rfl, rfl, by decide, by decide, by decide⟩, ⟨rfl, rfl, by decide, by decide, by decide⟩, ⟨rfl, rfl, by decide, by decide, by decide⟩, ⟨rfl, rfl, by decide, by decide, by decide⟩⟩
theorem isS_92 : IsS 92 := ⟨rfl, rfl, rfl, by decide, by decide, by decide, ⟨rfl, rfl, by decide, by decide, by decide⟩, ⟨rfl, rfl, by decide, by decide, by decide⟩, ⟨rfl, rfl, by decide, by decide, by decide⟩, ⟨rfl, rfl, by decide, by decide, by decide⟩⟩
/-- contracts over the run's world: an int (or boolean) comes back, or nothing -/
def Pi (post : Int → Mem → Prop) : Option Value → Lay → Nat → Mem → Prop := fun r L n M' => L = LAY ∧ n = NN ∧ ∃ z, r = some (vI z) ∧ post z M'
def Pv (post : Mem → Prop) : Option Value → Lay → Nat → Mem → Prop := fun r L n M' => L = LAY ∧ n = NN ∧ r = none ∧ post M'
def Ci (g : GE) (l : Launch) (μ : Mu) (av : List Value) (M : Mem) (post : Int → Mem → Prop) : Prop := Ct g l μ 0 0 av LAY NN M (Pi post)
def Cv (g : GE) (l : Launch) (μ : Mu) (av : List Value) (M : Mem) (post : Mem → Prop) : Prop := Ct g l μ 0 0 av LAY NN M (Pv post)
/-- nothing changes -/
def Cp (g : GE) (l : Launch) (μ : Mu) (av : List Value) (M : Mem) (e : Int) : Prop := Ci g l μ av M (fun z M' => z = e ∧ M' = M)
theorem Ci.of {g : GE} {l : Launch} {μ : Mu} {av : List Value} {M : Mem} {post : Int → Mem → Prop} (hy : plainName μ.1.cls = true) (hav : Nat.ble (lg_sl av).length μ.2.2.1 = true) {ls : List (Nat × Value)} (hls : lv_args 0 av = ls)
    (body : ∀ x : Fx, Cx x g μ.2.1 μ.1.cls μ.2.2.1 (mRm μ 0 0) → Rx x g 0 0 μ.2.2.2.1 (Pi post) → K x g 0 0 LAY NN M 0 ls []) : Ci g l μ av M post := Ct.of hy hav (fun x _ hx _ hr => hls ▸ body x hx hr)
theorem Cv.of {g : GE} {l : Launch} {μ : Mu} {av : List Value} {M : Mem} {post : Mem → Prop} (hy : plainName μ.1.cls = true) (hav : Nat.ble (lg_sl av).length μ.2.2.1 = true) {ls : List (Nat × Value)} (hls : lv_args 0 av = ls)
    (body : ∀ x : Fx, Cx x g μ.2.1 μ.1.cls μ.2.2.1 (mRm μ 0 0) → Rx x g 0 0 μ.2.2.2.1 (Pv post) → K x g 0 0 LAY NN M 0 ls []) : Cv g l μ av M post := Ct.of hy hav (fun x _ hx _ hr => hls ▸ body x hx hr)
section STEADY
variable {x : Fx} {g : GE} {cc : ByteArray} {own : String} {nL : Nat} {R : Room} {cs sl : Nat} {M : Mem} {pc pc' index na ci i : Nat} {ls : List (Nat × Value)} {st rest As av : List Value} {μ : Mu} {L : Lay} {n : Nat}
theorem k_ri {post : Int → Mem → Prop} (hx : Cx x g cc own nL R) (hm : Rx x g 0 0 (some .int) (Pi post)) {z : Int} (hd : At cc pc .ireturn 1 (pc + 1)) (hp : post z M) : K x g 0 0 LAY NN M pc ls [vI z] := k_iret hx hm hd ⟨rfl, rfl, z, rfl, hp⟩
theorem k_rz {post : Int → Mem → Prop} (hx : Cx x g cc own nL R) (hm : Rx x g 0 0 (some .boolean) (Pi post)) {z : Int} (hd : At cc pc .ireturn 1 (pc + 1)) (hz : z = 0 ∨ z = 1) (hp : post z M) : K x g 0 0 LAY NN M pc ls [vI z] := k_zret hx hm hd hz ⟨rfl, rfl, z, rfl, hp⟩
theorem k_rv {post : Mem → Prop} (hx : Cx x g cc own nL R) (hm : Rx x g 0 0 none (Pv post)) (hd : At cc pc .return_ 1 (pc + 1)) (hp : post M) : K x g 0 0 LAY NN M pc ls [] := k_vret hx hm hd ⟨rfl, rfl, rfl, hp⟩
theorem k_vi {post : Int → Mem → Prop} (hx : Cx x g cc own nL R) (hlk : lkV own index μ ci na) (hd : At cc pc (.invokevirtual index) 3 pc') (hC : Ci g (xL x) μ (vR g i :: As) M post) {fs : List FS} (hi : i < NN) (hL : LAY i = kO ci fs) (hn : As.length = na) (hst : st = As.reverse ++ vR g i :: rest) (hcat : Nat.ble (rest.map fun v => v.category).sum 8 = true) (hroom : Nat.ble (μ.2.2.2.2.1 + 1) R.frames = true ∧ Nat.ble (8 + (μ.2.2.1 + 11) + μ.2.2.2.2.2) R.locals = true) (hcell : cs ≤ R.cells ∧ sl ≤ R.slots)
    (kk : ∀ (z : Int) (M' : Mem), post z M' → K x g cs sl LAY NN M' pc' ls (vI z :: rest)) : K x g cs sl LAY NN M pc ls st :=
  k_callV hx hlk hd hC hi hL hn hst hcat hroom hcell (fun r L' n' M' ⟨h1, h2, z, h3, h4⟩ => by subst h1; subst h2; subst h3; exact kk z M' h4)
theorem k_vp {e : Int} (hx : Cx x g cc own nL R) (hlk : lkV own index μ ci na) (hd : At cc pc (.invokevirtual index) 3 pc') (hC : Cp g (xL x) μ (vR g i :: As) M e) {fs : List FS} (hi : i < NN) (hL : LAY i = kO ci fs) (hn : As.length = na) (hst : st = As.reverse ++ vR g i :: rest) (hcat : Nat.ble (rest.map fun v => v.category).sum 8 = true) (hroom : Nat.ble (μ.2.2.2.2.1 + 1) R.frames = true ∧ Nat.ble (8 + (μ.2.2.1 + 11) + μ.2.2.2.2.2) R.locals = true) (hcell : cs ≤ R.cells ∧ sl ≤ R.slots)
    (kk : K x g cs sl LAY NN M pc' ls (vI e :: rest)) : K x g cs sl LAY NN M pc ls st :=
  k_vi hx hlk hd hC hi hL hn hst hcat hroom hcell (fun z M' ⟨h1, h2⟩ => by subst h1; subst h2; exact kk)
theorem k_vv {post : Mem → Prop} (hx : Cx x g cc own nL R) (hlk : lkV own index μ ci na) (hd : At cc pc (.invokevirtual index) 3 pc') (hC : Cv g (xL x) μ (vR g i :: As) M post) {fs : List FS} (hi : i < NN) (hL : LAY i = kO ci fs) (hn : As.length = na) (hst : st = As.reverse ++ vR g i :: rest) (hcat : Nat.ble (rest.map fun v => v.category).sum 8 = true) (hroom : Nat.ble (μ.2.2.2.2.1 + 1) R.frames = true ∧ Nat.ble (8 + (μ.2.2.1 + 11) + μ.2.2.2.2.2) R.locals = true) (hcell : cs ≤ R.cells ∧ sl ≤ R.slots)
    (kk : ∀ (M' : Mem), post M' → K x g cs sl LAY NN M' pc' ls rest) : K x g cs sl LAY NN M pc ls st :=
  k_callV hx hlk hd hC hi hL hn hst hcat hroom hcell (fun r L' n' M' ⟨h1, h2, h3, h4⟩ => by subst h1; subst h2; subst h3; exact kk M' h4)
theorem k_si {post : Int → Mem → Prop} (hx : Cx x g cc own nL R) (hlk : lkS own index μ na) (hd : At cc pc (.invokestatic index) 3 pc') (hC : Ci g (xL x) μ As M post) (hn : As.length = na) (hst : st = As.reverse ++ rest) (hcat : Nat.ble (rest.map fun v => v.category).sum 8 = true) (hroom : Nat.ble (μ.2.2.2.2.1 + 1) R.frames = true ∧ Nat.ble (8 + (μ.2.2.1 + 11) + μ.2.2.2.2.2) R.locals = true) (hcell : cs ≤ R.cells ∧ sl ≤ R.slots)
    (kk : ∀ (z : Int) (M' : Mem), post z M' → K x g cs sl LAY NN M' pc' ls (vI z :: rest)) : K x g cs sl LAY NN M pc ls st :=
  k_callS hx hlk hd hC hn hst hcat hroom hcell (fun r L' n' M' ⟨h1, h2, z, h3, h4⟩ => by subst h1; subst h2; subst h3; exact kk z M' h4)
theorem k_sp {e : Int} (hx : Cx x g cc own nL R) (hlk : lkS own index μ na) (hd : At cc pc (.invokestatic index) 3 pc') (hC : Cp g (xL x) μ As M e) (hn : As.length = na) (hst : st = As.reverse ++ rest) (hcat : Nat.ble (rest.map fun v => v.category).sum 8 = true) (hroom : Nat.ble (μ.2.2.2.2.1 + 1) R.frames = true ∧ Nat.ble (8 + (μ.2.2.1 + 11) + μ.2.2.2.2.2) R.locals = true) (hcell : cs ≤ R.cells ∧ sl ≤ R.slots)
    (kk : K x g cs sl LAY NN M pc' ls (vI e :: rest)) : K x g cs sl LAY NN M pc ls st :=
  k_si hx hlk hd hC hn hst hcat hroom hcell (fun z M' ⟨h1, h2⟩ => by subst h1; subst h2; exact kk)
theorem k_np {e : Int} {host : String} (hx : Cx x g cc own nL R) (hlk : lkN own index μ host na) (hd : At cc pc (.invokestatic index) 3 pc') (hC : Cp g (xL x) μ As M e) (hn : As.length = na) (hst : st = As.reverse ++ rest) (hcat : Nat.ble (rest.map fun v => v.category).sum 8 = true) (hroom : Nat.ble (μ.2.2.2.2.1 + 1) R.frames = true ∧ Nat.ble (8 + (μ.2.2.1 + 11) + μ.2.2.2.2.2) R.locals = true) (hcell : cs ≤ R.cells ∧ sl ≤ R.slots)
    (kk : K x g cs sl LAY NN M pc' ls (vI e :: rest)) : K x g cs sl LAY NN M pc ls st :=
  k_callN hx hlk hd hC hn hst hcat hroom hcell (fun r L' n' M' ⟨h1, h2, z, h3, h4, h5⟩ => by subst h1; subst h2; subst h3; subst h4; subst h5; exact kk)
/-- stores, the new numbers under a name -/
theorem k_putI {k : Nat} {kz : Int} {fs : List FS} {z : Int} (hx : Cx x g cc own nL R) (hf : FL own index ci k false .int) (hd : At cc pc (.putfield index) 3 pc') (hi : i < n) (hL : L i = kO ci fs) (hn : fs.getD k none = none) (hkz : (k : Int) = kz) (kk : ∀ M', M' = up M i kz z → K x g cs sl L n M' pc' ls st) : K x g cs sl L n M pc ls (vI z :: vR g i :: st) := by subst hkz; exact k_put hx hf hd hi hL hn ⟨rfl, rfl⟩ (kk _ rfl)
theorem k_putZ {k : Nat} {kz : Int} {fs : List FS} {z : Int} (hx : Cx x g cc own nL R) (hf : FL own index ci k false .boolean) (hd : At cc pc (.putfield index) 3 pc') (hi : i < n) (hL : L i = kO ci fs) (hn : fs.getD k none = none) (hkz : (k : Int) = kz) (hz : z = 0 ∨ z = 1) (kk : ∀ M', M' = up M i kz z → K x g cs sl L n M' pc' ls st) : K x g cs sl L n M pc ls (vI z :: vR g i :: st) := by subst hkz; exact k_put hx hf hd hi hL hn (by rcases hz with rfl | rfl <;> decide +kernel) (kk _ rfl)
theorem k_iastN {N : Nat} {z v : Int} (hx : Cx x g cc own nL R) (hd : At cc pc .iastore 1 pc') (hi : i < n) (hL : L i = kA 0 N) (hz : 0 ≤ z ∧ z < N) (hN : N ≤ 2147483647) (kk : ∀ M', M' = up M i z v → K x g cs sl L n M' pc' ls st) : K x g cs sl L n M pc ls (vI v :: vI z :: vR g i :: st) := k_iast hx hd hi hL hz hN (kk _ rfl)
theorem k_zastN {N : Nat} {z v : Int} (hx : Cx x g cc own nL R) (hd : At cc pc .bastore 1 pc') (hi : i < n) (hL : L i = kA 1 N) (hz : 0 ≤ z ∧ z < N) (hN : N ≤ 2147483647) (hv : v = 0 ∨ v = 1) (kk : ∀ M', M' = up M i z v → K x g cs sl L n M' pc' ls st) : K x g cs sl L n M pc ls (vI v :: vI z :: vR g i :: st) := k_zast hx hd hi hL hz hN hv (kk _ rfl)
end STEADY

