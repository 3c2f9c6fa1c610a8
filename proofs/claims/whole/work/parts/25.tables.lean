/-! kinds, lengths and fixed pointers of the addresses 0 .. 145 (by program: wip/whole/tables.py) -/
def kTb : List Nat := [19, 1, 15, 18, 1, 1, 1, 2, 1, 1, 1, 1, 1, 15, 18, 1, 1, 1, 2, 1, 1, 1, 1, 1, 18, 1, 1, 1, 18, 1, 1, 1, 18, 1, 1, 1, 13, 5, 5, 18, 1, 1, 1, 18, 1, 1, 1, 18, 1, 1, 1, 18, 1, 1, 1, 18, 1, 1, 1, 18, 1, 1, 1, 18, 1, 1, 1, 18, 1, 1, 1, 18, 1, 1, 1, 18, 1, 1, 1, 18, 1, 1, 1, 18, 1, 1, 1, 18, 1, 1, 1, 18, 1, 1, 1, 18, 1, 1, 1, 10, 1, 1, 1, 1, 1, 2, 16, 1, 1, 1, 1, 17, 2, 2, 2, 11, 1, 12, 1, 1, 4, 1, 1, 1, 21, 3, 1, 1, 1, 1, 1, 1, 1, 4, 1, 2, 1, 1, 1, 4, 4, 1, 1, 1, 1, 2]
def lTb : List Int := [0, 900, 0, 0, 216, 6, 24, 6, 20, 8, 8, 8, 8, 0, 0, 216, 6, 24, 6, 20, 8, 8, 8, 8, 0, 216, 6, 24, 0, 216, 6, 24, 0, 216, 6, 24, 0, 12, 3, 0, 216, 6, 24, 0, 216, 6, 24, 0, 216, 6, 24, 0, 216, 6, 24, 0, 216, 6, 24, 0, 216, 6, 24, 0, 216, 6, 24, 0, 216, 6, 24, 0, 216, 6, 24, 0, 216, 6, 24, 0, 216, 6, 24, 0, 216, 6, 24, 0, 216, 6, 24, 0, 216, 6, 24, 0, 216, 6, 24, 0, 61, 61, 2196, 2196, 61, 61, 0, 36, 3, 3, 192, 0, 108, 108, 36, 0, 625, 0, 36, 36, 36, 36, 36, 216, 0, 900, 248, 2976, 744, 86616, 6, 24, 2406, 36, 36, 401, 36, 3, 3, 216, 216, 36, 6, 6, 6, 1]
def gAll (G : GG) : Prop := (∀ a : Nat, a < 146 → G.1 (a : Int) = kTb.getD a 0 ∧ G.2.1 (a : Int) = lTb.getD a 0) ∧ 146 ≤ G.2.2
section TB
variable {G : GG}
theorem gk_0 (h : gAll G) : G.1 0 = 19 := (h.1 0 (by decide)).1
theorem gk_1 (h : gAll G) : G.1 1 = 1 := (h.1 1 (by decide)).1
theorem gl_1 (h : gAll G) : G.2.1 1 = 900 := (h.1 1 (by decide)).2
theorem gk_2 (h : gAll G) : G.1 2 = 15 := (h.1 2 (by decide)).1
theorem gk_3 (h : gAll G) : G.1 3 = 18 := (h.1 3 (by decide)).1
theorem gk_4 (h : gAll G) : G.1 4 = 1 := (h.1 4 (by decide)).1
theorem gl_4 (h : gAll G) : G.2.1 4 = 216 := (h.1 4 (by decide)).2
theorem gk_5 (h : gAll G) : G.1 5 = 1 := (h.1 5 (by decide)).1
theorem gl_5 (h : gAll G) : G.2.1 5 = 6 := (h.1 5 (by decide)).2
theorem gk_6 (h : gAll G) : G.1 6 = 1 := (h.1 6 (by decide)).1
theorem gl_6 (h : gAll G) : G.2.1 6 = 24 := (h.1 6 (by decide)).2
theorem gk_7 (h : gAll G) : G.1 7 = 2 := (h.1 7 (by decide)).1
theorem gl_7 (h : gAll G) : G.2.1 7 = 6 := (h.1 7 (by decide)).2
theorem gk_8 (h : gAll G) : G.1 8 = 1 := (h.1 8 (by decide)).1
theorem gl_8 (h : gAll G) : G.2.1 8 = 20 := (h.1 8 (by decide)).2
theorem gk_9 (h : gAll G) : G.1 9 = 1 := (h.1 9 (by decide)).1
theorem gl_9 (h : gAll G) : G.2.1 9 = 8 := (h.1 9 (by decide)).2
theorem gk_10 (h : gAll G) : G.1 10 = 1 := (h.1 10 (by decide)).1
theorem gl_10 (h : gAll G) : G.2.1 10 = 8 := (h.1 10 (by decide)).2
theorem gk_11 (h : gAll G) : G.1 11 = 1 := (h.1 11 (by decide)).1
theorem gl_11 (h : gAll G) : G.2.1 11 = 8 := (h.1 11 (by decide)).2
theorem gk_12 (h : gAll G) : G.1 12 = 1 := (h.1 12 (by decide)).1
theorem gl_12 (h : gAll G) : G.2.1 12 = 8 := (h.1 12 (by decide)).2
theorem gk_13 (h : gAll G) : G.1 13 = 15 := (h.1 13 (by decide)).1
theorem gk_14 (h : gAll G) : G.1 14 = 18 := (h.1 14 (by decide)).1
theorem gk_15 (h : gAll G) : G.1 15 = 1 := (h.1 15 (by decide)).1
theorem gl_15 (h : gAll G) : G.2.1 15 = 216 := (h.1 15 (by decide)).2
theorem gk_16 (h : gAll G) : G.1 16 = 1 := (h.1 16 (by decide)).1
theorem gl_16 (h : gAll G) : G.2.1 16 = 6 := (h.1 16 (by decide)).2
theorem gk_17 (h : gAll G) : G.1 17 = 1 := (h.1 17 (by decide)).1
theorem gl_17 (h : gAll G) : G.2.1 17 = 24 := (h.1 17 (by decide)).2
theorem gk_18 (h : gAll G) : G.1 18 = 2 := (h.1 18 (by decide)).1
theorem gl_18 (h : gAll G) : G.2.1 18 = 6 := (h.1 18 (by decide)).2
theorem gk_19 (h : gAll G) : G.1 19 = 1 := (h.1 19 (by decide)).1
theorem gl_19 (h : gAll G) : G.2.1 19 = 20 := (h.1 19 (by decide)).2
theorem gk_20 (h : gAll G) : G.1 20 = 1 := (h.1 20 (by decide)).1
theorem gl_20 (h : gAll G) : G.2.1 20 = 8 := (h.1 20 (by decide)).2
theorem gk_21 (h : gAll G) : G.1 21 = 1 := (h.1 21 (by decide)).1
theorem gl_21 (h : gAll G) : G.2.1 21 = 8 := (h.1 21 (by decide)).2
theorem gk_22 (h : gAll G) : G.1 22 = 1 := (h.1 22 (by decide)).1
theorem gl_22 (h : gAll G) : G.2.1 22 = 8 := (h.1 22 (by decide)).2
theorem gk_23 (h : gAll G) : G.1 23 = 1 := (h.1 23 (by decide)).1
theorem gl_23 (h : gAll G) : G.2.1 23 = 8 := (h.1 23 (by decide)).2
theorem gk_24 (h : gAll G) : G.1 24 = 18 := (h.1 24 (by decide)).1
theorem gk_25 (h : gAll G) : G.1 25 = 1 := (h.1 25 (by decide)).1
theorem gl_25 (h : gAll G) : G.2.1 25 = 216 := (h.1 25 (by decide)).2
theorem gk_26 (h : gAll G) : G.1 26 = 1 := (h.1 26 (by decide)).1
theorem gl_26 (h : gAll G) : G.2.1 26 = 6 := (h.1 26 (by decide)).2
theorem gk_27 (h : gAll G) : G.1 27 = 1 := (h.1 27 (by decide)).1
theorem gl_27 (h : gAll G) : G.2.1 27 = 24 := (h.1 27 (by decide)).2
theorem gk_28 (h : gAll G) : G.1 28 = 18 := (h.1 28 (by decide)).1
theorem gk_29 (h : gAll G) : G.1 29 = 1 := (h.1 29 (by decide)).1
theorem gl_29 (h : gAll G) : G.2.1 29 = 216 := (h.1 29 (by decide)).2
theorem gk_30 (h : gAll G) : G.1 30 = 1 := (h.1 30 (by decide)).1
theorem gl_30 (h : gAll G) : G.2.1 30 = 6 := (h.1 30 (by decide)).2
theorem gk_31 (h : gAll G) : G.1 31 = 1 := (h.1 31 (by decide)).1
theorem gl_31 (h : gAll G) : G.2.1 31 = 24 := (h.1 31 (by decide)).2
theorem gk_32 (h : gAll G) : G.1 32 = 18 := (h.1 32 (by decide)).1
theorem gk_33 (h : gAll G) : G.1 33 = 1 := (h.1 33 (by decide)).1
theorem gl_33 (h : gAll G) : G.2.1 33 = 216 := (h.1 33 (by decide)).2
theorem gk_34 (h : gAll G) : G.1 34 = 1 := (h.1 34 (by decide)).1
theorem gl_34 (h : gAll G) : G.2.1 34 = 6 := (h.1 34 (by decide)).2
theorem gk_35 (h : gAll G) : G.1 35 = 1 := (h.1 35 (by decide)).1
theorem gl_35 (h : gAll G) : G.2.1 35 = 24 := (h.1 35 (by decide)).2
theorem gk_36 (h : gAll G) : G.1 36 = 13 := (h.1 36 (by decide)).1
theorem gk_37 (h : gAll G) : G.1 37 = 5 := (h.1 37 (by decide)).1
theorem gl_37 (h : gAll G) : G.2.1 37 = 12 := (h.1 37 (by decide)).2
theorem gk_38 (h : gAll G) : G.1 38 = 5 := (h.1 38 (by decide)).1
theorem gl_38 (h : gAll G) : G.2.1 38 = 3 := (h.1 38 (by decide)).2
theorem gk_39 (h : gAll G) : G.1 39 = 18 := (h.1 39 (by decide)).1
theorem gk_40 (h : gAll G) : G.1 40 = 1 := (h.1 40 (by decide)).1
theorem gl_40 (h : gAll G) : G.2.1 40 = 216 := (h.1 40 (by decide)).2
theorem gk_41 (h : gAll G) : G.1 41 = 1 := (h.1 41 (by decide)).1
theorem gl_41 (h : gAll G) : G.2.1 41 = 6 := (h.1 41 (by decide)).2
theorem gk_42 (h : gAll G) : G.1 42 = 1 := (h.1 42 (by decide)).1
theorem gl_42 (h : gAll G) : G.2.1 42 = 24 := (h.1 42 (by decide)).2
theorem gk_43 (h : gAll G) : G.1 43 = 18 := (h.1 43 (by decide)).1
theorem gk_44 (h : gAll G) : G.1 44 = 1 := (h.1 44 (by decide)).1
theorem gl_44 (h : gAll G) : G.2.1 44 = 216 := (h.1 44 (by decide)).2
theorem gk_45 (h : gAll G) : G.1 45 = 1 := (h.1 45 (by decide)).1
theorem gl_45 (h : gAll G) : G.2.1 45 = 6 := (h.1 45 (by decide)).2
theorem gk_46 (h : gAll G) : G.1 46 = 1 := (h.1 46 (by decide)).1
theorem gl_46 (h : gAll G) : G.2.1 46 = 24 := (h.1 46 (by decide)).2
theorem gk_47 (h : gAll G) : G.1 47 = 18 := (h.1 47 (by decide)).1
theorem gk_48 (h : gAll G) : G.1 48 = 1 := (h.1 48 (by decide)).1
theorem gl_48 (h : gAll G) : G.2.1 48 = 216 := (h.1 48 (by decide)).2
theorem gk_49 (h : gAll G) : G.1 49 = 1 := (h.1 49 (by decide)).1
theorem gl_49 (h : gAll G) : G.2.1 49 = 6 := (h.1 49 (by decide)).2
theorem gk_50 (h : gAll G) : G.1 50 = 1 := (h.1 50 (by decide)).1
theorem gl_50 (h : gAll G) : G.2.1 50 = 24 := (h.1 50 (by decide)).2
theorem gk_51 (h : gAll G) : G.1 51 = 18 := (h.1 51 (by decide)).1
theorem gk_52 (h : gAll G) : G.1 52 = 1 := (h.1 52 (by decide)).1
theorem gl_52 (h : gAll G) : G.2.1 52 = 216 := (h.1 52 (by decide)).2
theorem gk_53 (h : gAll G) : G.1 53 = 1 := (h.1 53 (by decide)).1
theorem gl_53 (h : gAll G) : G.2.1 53 = 6 := (h.1 53 (by decide)).2
theorem gk_54 (h : gAll G) : G.1 54 = 1 := (h.1 54 (by decide)).1
theorem gl_54 (h : gAll G) : G.2.1 54 = 24 := (h.1 54 (by decide)).2
theorem gk_55 (h : gAll G) : G.1 55 = 18 := (h.1 55 (by decide)).1
theorem gk_56 (h : gAll G) : G.1 56 = 1 := (h.1 56 (by decide)).1
theorem gl_56 (h : gAll G) : G.2.1 56 = 216 := (h.1 56 (by decide)).2
theorem gk_57 (h : gAll G) : G.1 57 = 1 := (h.1 57 (by decide)).1
theorem gl_57 (h : gAll G) : G.2.1 57 = 6 := (h.1 57 (by decide)).2
theorem gk_58 (h : gAll G) : G.1 58 = 1 := (h.1 58 (by decide)).1
theorem gl_58 (h : gAll G) : G.2.1 58 = 24 := (h.1 58 (by decide)).2
theorem gk_59 (h : gAll G) : G.1 59 = 18 := (h.1 59 (by decide)).1
theorem gk_60 (h : gAll G) : G.1 60 = 1 := (h.1 60 (by decide)).1
theorem gl_60 (h : gAll G) : G.2.1 60 = 216 := (h.1 60 (by decide)).2
theorem gk_61 (h : gAll G) : G.1 61 = 1 := (h.1 61 (by decide)).1
theorem gl_61 (h : gAll G) : G.2.1 61 = 6 := (h.1 61 (by decide)).2
theorem gk_62 (h : gAll G) : G.1 62 = 1 := (h.1 62 (by decide)).1
theorem gl_62 (h : gAll G) : G.2.1 62 = 24 := (h.1 62 (by decide)).2
theorem gk_63 (h : gAll G) : G.1 63 = 18 := (h.1 63 (by decide)).1
theorem gk_64 (h : gAll G) : G.1 64 = 1 := (h.1 64 (by decide)).1
theorem gl_64 (h : gAll G) : G.2.1 64 = 216 := (h.1 64 (by decide)).2
theorem gk_65 (h : gAll G) : G.1 65 = 1 := (h.1 65 (by decide)).1
theorem gl_65 (h : gAll G) : G.2.1 65 = 6 := (h.1 65 (by decide)).2
theorem gk_66 (h : gAll G) : G.1 66 = 1 := (h.1 66 (by decide)).1
theorem gl_66 (h : gAll G) : G.2.1 66 = 24 := (h.1 66 (by decide)).2
theorem gk_67 (h : gAll G) : G.1 67 = 18 := (h.1 67 (by decide)).1
theorem gk_68 (h : gAll G) : G.1 68 = 1 := (h.1 68 (by decide)).1
theorem gl_68 (h : gAll G) : G.2.1 68 = 216 := (h.1 68 (by decide)).2
theorem gk_69 (h : gAll G) : G.1 69 = 1 := (h.1 69 (by decide)).1
theorem gl_69 (h : gAll G) : G.2.1 69 = 6 := (h.1 69 (by decide)).2
theorem gk_70 (h : gAll G) : G.1 70 = 1 := (h.1 70 (by decide)).1
theorem gl_70 (h : gAll G) : G.2.1 70 = 24 := (h.1 70 (by decide)).2
theorem gk_71 (h : gAll G) : G.1 71 = 18 := (h.1 71 (by decide)).1
theorem gk_72 (h : gAll G) : G.1 72 = 1 := (h.1 72 (by decide)).1
theorem gl_72 (h : gAll G) : G.2.1 72 = 216 := (h.1 72 (by decide)).2
theorem gk_73 (h : gAll G) : G.1 73 = 1 := (h.1 73 (by decide)).1
theorem gl_73 (h : gAll G) : G.2.1 73 = 6 := (h.1 73 (by decide)).2
theorem gk_74 (h : gAll G) : G.1 74 = 1 := (h.1 74 (by decide)).1
theorem gl_74 (h : gAll G) : G.2.1 74 = 24 := (h.1 74 (by decide)).2
theorem gk_75 (h : gAll G) : G.1 75 = 18 := (h.1 75 (by decide)).1
theorem gk_76 (h : gAll G) : G.1 76 = 1 := (h.1 76 (by decide)).1
theorem gl_76 (h : gAll G) : G.2.1 76 = 216 := (h.1 76 (by decide)).2
theorem gk_77 (h : gAll G) : G.1 77 = 1 := (h.1 77 (by decide)).1
theorem gl_77 (h : gAll G) : G.2.1 77 = 6 := (h.1 77 (by decide)).2
theorem gk_78 (h : gAll G) : G.1 78 = 1 := (h.1 78 (by decide)).1
theorem gl_78 (h : gAll G) : G.2.1 78 = 24 := (h.1 78 (by decide)).2
theorem gk_79 (h : gAll G) : G.1 79 = 18 := (h.1 79 (by decide)).1
theorem gk_80 (h : gAll G) : G.1 80 = 1 := (h.1 80 (by decide)).1
theorem gl_80 (h : gAll G) : G.2.1 80 = 216 := (h.1 80 (by decide)).2
theorem gk_81 (h : gAll G) : G.1 81 = 1 := (h.1 81 (by decide)).1
theorem gl_81 (h : gAll G) : G.2.1 81 = 6 := (h.1 81 (by decide)).2
theorem gk_82 (h : gAll G) : G.1 82 = 1 := (h.1 82 (by decide)).1
theorem gl_82 (h : gAll G) : G.2.1 82 = 24 := (h.1 82 (by decide)).2
theorem gk_83 (h : gAll G) : G.1 83 = 18 := (h.1 83 (by decide)).1
theorem gk_84 (h : gAll G) : G.1 84 = 1 := (h.1 84 (by decide)).1
theorem gl_84 (h : gAll G) : G.2.1 84 = 216 := (h.1 84 (by decide)).2
theorem gk_85 (h : gAll G) : G.1 85 = 1 := (h.1 85 (by decide)).1
theorem gl_85 (h : gAll G) : G.2.1 85 = 6 := (h.1 85 (by decide)).2
theorem gk_86 (h : gAll G) : G.1 86 = 1 := (h.1 86 (by decide)).1
theorem gl_86 (h : gAll G) : G.2.1 86 = 24 := (h.1 86 (by decide)).2
theorem gk_87 (h : gAll G) : G.1 87 = 18 := (h.1 87 (by decide)).1
theorem gk_88 (h : gAll G) : G.1 88 = 1 := (h.1 88 (by decide)).1
theorem gl_88 (h : gAll G) : G.2.1 88 = 216 := (h.1 88 (by decide)).2
theorem gk_89 (h : gAll G) : G.1 89 = 1 := (h.1 89 (by decide)).1
theorem gl_89 (h : gAll G) : G.2.1 89 = 6 := (h.1 89 (by decide)).2
theorem gk_90 (h : gAll G) : G.1 90 = 1 := (h.1 90 (by decide)).1
theorem gl_90 (h : gAll G) : G.2.1 90 = 24 := (h.1 90 (by decide)).2
theorem gk_91 (h : gAll G) : G.1 91 = 18 := (h.1 91 (by decide)).1
theorem gk_92 (h : gAll G) : G.1 92 = 1 := (h.1 92 (by decide)).1
theorem gl_92 (h : gAll G) : G.2.1 92 = 216 := (h.1 92 (by decide)).2
theorem gk_93 (h : gAll G) : G.1 93 = 1 := (h.1 93 (by decide)).1
theorem gl_93 (h : gAll G) : G.2.1 93 = 6 := (h.1 93 (by decide)).2
theorem gk_94 (h : gAll G) : G.1 94 = 1 := (h.1 94 (by decide)).1
theorem gl_94 (h : gAll G) : G.2.1 94 = 24 := (h.1 94 (by decide)).2
theorem gk_95 (h : gAll G) : G.1 95 = 18 := (h.1 95 (by decide)).1
theorem gk_96 (h : gAll G) : G.1 96 = 1 := (h.1 96 (by decide)).1
theorem gl_96 (h : gAll G) : G.2.1 96 = 216 := (h.1 96 (by decide)).2
theorem gk_97 (h : gAll G) : G.1 97 = 1 := (h.1 97 (by decide)).1
theorem gl_97 (h : gAll G) : G.2.1 97 = 6 := (h.1 97 (by decide)).2
theorem gk_98 (h : gAll G) : G.1 98 = 1 := (h.1 98 (by decide)).1
theorem gl_98 (h : gAll G) : G.2.1 98 = 24 := (h.1 98 (by decide)).2
theorem gk_99 (h : gAll G) : G.1 99 = 10 := (h.1 99 (by decide)).1
theorem gk_100 (h : gAll G) : G.1 100 = 1 := (h.1 100 (by decide)).1
theorem gl_100 (h : gAll G) : G.2.1 100 = 61 := (h.1 100 (by decide)).2
theorem gk_101 (h : gAll G) : G.1 101 = 1 := (h.1 101 (by decide)).1
theorem gl_101 (h : gAll G) : G.2.1 101 = 61 := (h.1 101 (by decide)).2
theorem gk_102 (h : gAll G) : G.1 102 = 1 := (h.1 102 (by decide)).1
theorem gl_102 (h : gAll G) : G.2.1 102 = 2196 := (h.1 102 (by decide)).2
theorem gk_103 (h : gAll G) : G.1 103 = 1 := (h.1 103 (by decide)).1
theorem gl_103 (h : gAll G) : G.2.1 103 = 2196 := (h.1 103 (by decide)).2
theorem gk_104 (h : gAll G) : G.1 104 = 1 := (h.1 104 (by decide)).1
theorem gl_104 (h : gAll G) : G.2.1 104 = 61 := (h.1 104 (by decide)).2
theorem gk_105 (h : gAll G) : G.1 105 = 2 := (h.1 105 (by decide)).1
theorem gl_105 (h : gAll G) : G.2.1 105 = 61 := (h.1 105 (by decide)).2
theorem gk_106 (h : gAll G) : G.1 106 = 16 := (h.1 106 (by decide)).1
theorem gk_107 (h : gAll G) : G.1 107 = 1 := (h.1 107 (by decide)).1
theorem gl_107 (h : gAll G) : G.2.1 107 = 36 := (h.1 107 (by decide)).2
theorem gk_108 (h : gAll G) : G.1 108 = 1 := (h.1 108 (by decide)).1
theorem gl_108 (h : gAll G) : G.2.1 108 = 3 := (h.1 108 (by decide)).2
theorem gk_109 (h : gAll G) : G.1 109 = 1 := (h.1 109 (by decide)).1
theorem gl_109 (h : gAll G) : G.2.1 109 = 3 := (h.1 109 (by decide)).2
theorem gk_110 (h : gAll G) : G.1 110 = 1 := (h.1 110 (by decide)).1
theorem gl_110 (h : gAll G) : G.2.1 110 = 192 := (h.1 110 (by decide)).2
theorem gk_111 (h : gAll G) : G.1 111 = 17 := (h.1 111 (by decide)).1
theorem gk_112 (h : gAll G) : G.1 112 = 2 := (h.1 112 (by decide)).1
theorem gl_112 (h : gAll G) : G.2.1 112 = 108 := (h.1 112 (by decide)).2
theorem gk_113 (h : gAll G) : G.1 113 = 2 := (h.1 113 (by decide)).1
theorem gl_113 (h : gAll G) : G.2.1 113 = 108 := (h.1 113 (by decide)).2
theorem gk_114 (h : gAll G) : G.1 114 = 2 := (h.1 114 (by decide)).1
theorem gl_114 (h : gAll G) : G.2.1 114 = 36 := (h.1 114 (by decide)).2
theorem gk_115 (h : gAll G) : G.1 115 = 11 := (h.1 115 (by decide)).1
theorem gk_116 (h : gAll G) : G.1 116 = 1 := (h.1 116 (by decide)).1
theorem gl_116 (h : gAll G) : G.2.1 116 = 625 := (h.1 116 (by decide)).2
theorem gk_117 (h : gAll G) : G.1 117 = 12 := (h.1 117 (by decide)).1
theorem gk_118 (h : gAll G) : G.1 118 = 1 := (h.1 118 (by decide)).1
theorem gl_118 (h : gAll G) : G.2.1 118 = 36 := (h.1 118 (by decide)).2
theorem gk_119 (h : gAll G) : G.1 119 = 1 := (h.1 119 (by decide)).1
theorem gl_119 (h : gAll G) : G.2.1 119 = 36 := (h.1 119 (by decide)).2
theorem gk_120 (h : gAll G) : G.1 120 = 4 := (h.1 120 (by decide)).1
theorem gl_120 (h : gAll G) : G.2.1 120 = 36 := (h.1 120 (by decide)).2
theorem gk_121 (h : gAll G) : G.1 121 = 1 := (h.1 121 (by decide)).1
theorem gl_121 (h : gAll G) : G.2.1 121 = 36 := (h.1 121 (by decide)).2
theorem gk_122 (h : gAll G) : G.1 122 = 1 := (h.1 122 (by decide)).1
theorem gl_122 (h : gAll G) : G.2.1 122 = 36 := (h.1 122 (by decide)).2
theorem gk_123 (h : gAll G) : G.1 123 = 1 := (h.1 123 (by decide)).1
theorem gl_123 (h : gAll G) : G.2.1 123 = 216 := (h.1 123 (by decide)).2
theorem gk_124 (h : gAll G) : G.1 124 = 21 := (h.1 124 (by decide)).1
theorem gk_125 (h : gAll G) : G.1 125 = 3 := (h.1 125 (by decide)).1
theorem gl_125 (h : gAll G) : G.2.1 125 = 900 := (h.1 125 (by decide)).2
theorem gk_126 (h : gAll G) : G.1 126 = 1 := (h.1 126 (by decide)).1
theorem gl_126 (h : gAll G) : G.2.1 126 = 248 := (h.1 126 (by decide)).2
theorem gk_127 (h : gAll G) : G.1 127 = 1 := (h.1 127 (by decide)).1
theorem gl_127 (h : gAll G) : G.2.1 127 = 2976 := (h.1 127 (by decide)).2
theorem gk_128 (h : gAll G) : G.1 128 = 1 := (h.1 128 (by decide)).1
theorem gl_128 (h : gAll G) : G.2.1 128 = 744 := (h.1 128 (by decide)).2
theorem gk_129 (h : gAll G) : G.1 129 = 1 := (h.1 129 (by decide)).1
theorem gl_129 (h : gAll G) : G.2.1 129 = 86616 := (h.1 129 (by decide)).2
theorem gk_130 (h : gAll G) : G.1 130 = 1 := (h.1 130 (by decide)).1
theorem gl_130 (h : gAll G) : G.2.1 130 = 6 := (h.1 130 (by decide)).2
theorem gk_131 (h : gAll G) : G.1 131 = 1 := (h.1 131 (by decide)).1
theorem gl_131 (h : gAll G) : G.2.1 131 = 24 := (h.1 131 (by decide)).2
theorem gk_132 (h : gAll G) : G.1 132 = 1 := (h.1 132 (by decide)).1
theorem gl_132 (h : gAll G) : G.2.1 132 = 2406 := (h.1 132 (by decide)).2
theorem gk_133 (h : gAll G) : G.1 133 = 4 := (h.1 133 (by decide)).1
theorem gl_133 (h : gAll G) : G.2.1 133 = 36 := (h.1 133 (by decide)).2
theorem gk_134 (h : gAll G) : G.1 134 = 1 := (h.1 134 (by decide)).1
theorem gl_134 (h : gAll G) : G.2.1 134 = 36 := (h.1 134 (by decide)).2
theorem gk_135 (h : gAll G) : G.1 135 = 2 := (h.1 135 (by decide)).1
theorem gl_135 (h : gAll G) : G.2.1 135 = 401 := (h.1 135 (by decide)).2
theorem gk_136 (h : gAll G) : G.1 136 = 1 := (h.1 136 (by decide)).1
theorem gl_136 (h : gAll G) : G.2.1 136 = 36 := (h.1 136 (by decide)).2
theorem gk_137 (h : gAll G) : G.1 137 = 1 := (h.1 137 (by decide)).1
theorem gl_137 (h : gAll G) : G.2.1 137 = 3 := (h.1 137 (by decide)).2
theorem gk_138 (h : gAll G) : G.1 138 = 1 := (h.1 138 (by decide)).1
theorem gl_138 (h : gAll G) : G.2.1 138 = 3 := (h.1 138 (by decide)).2
theorem gk_139 (h : gAll G) : G.1 139 = 4 := (h.1 139 (by decide)).1
theorem gl_139 (h : gAll G) : G.2.1 139 = 216 := (h.1 139 (by decide)).2
theorem gk_140 (h : gAll G) : G.1 140 = 4 := (h.1 140 (by decide)).1
theorem gl_140 (h : gAll G) : G.2.1 140 = 216 := (h.1 140 (by decide)).2
theorem gk_141 (h : gAll G) : G.1 141 = 1 := (h.1 141 (by decide)).1
theorem gl_141 (h : gAll G) : G.2.1 141 = 36 := (h.1 141 (by decide)).2
theorem gk_142 (h : gAll G) : G.1 142 = 1 := (h.1 142 (by decide)).1
theorem gl_142 (h : gAll G) : G.2.1 142 = 6 := (h.1 142 (by decide)).2
theorem gk_143 (h : gAll G) : G.1 143 = 1 := (h.1 143 (by decide)).1
theorem gl_143 (h : gAll G) : G.2.1 143 = 6 := (h.1 143 (by decide)).2
theorem gk_144 (h : gAll G) : G.1 144 = 1 := (h.1 144 (by decide)).1
theorem gl_144 (h : gAll G) : G.2.1 144 = 6 := (h.1 144 (by decide)).2
theorem gk_145 (h : gAll G) : G.1 145 = 2 := (h.1 145 (by decide)).1
theorem gl_145 (h : gAll G) : G.2.1 145 = 1 := (h.1 145 (by decide)).2
theorem gW_3 (h : gAll G) : gW G 3 := ⟨by decide, gk_3 h, gk_4 h, gl_4 h, gk_5 h, gl_5 h, gk_6 h, gl_6 h⟩
theorem gW_14 (h : gAll G) : gW G 14 := ⟨by decide, gk_14 h, gk_15 h, gl_15 h, gk_16 h, gl_16 h, gk_17 h, gl_17 h⟩
theorem gW_24 (h : gAll G) : gW G 24 := ⟨by decide, gk_24 h, gk_25 h, gl_25 h, gk_26 h, gl_26 h, gk_27 h, gl_27 h⟩
theorem gW_28 (h : gAll G) : gW G 28 := ⟨by decide, gk_28 h, gk_29 h, gl_29 h, gk_30 h, gl_30 h, gk_31 h, gl_31 h⟩
theorem gW_32 (h : gAll G) : gW G 32 := ⟨by decide, gk_32 h, gk_33 h, gl_33 h, gk_34 h, gl_34 h, gk_35 h, gl_35 h⟩
theorem gW_39 (h : gAll G) : gW G 39 := ⟨by decide, gk_39 h, gk_40 h, gl_40 h, gk_41 h, gl_41 h, gk_42 h, gl_42 h⟩
theorem gW_43 (h : gAll G) : gW G 43 := ⟨by decide, gk_43 h, gk_44 h, gl_44 h, gk_45 h, gl_45 h, gk_46 h, gl_46 h⟩
theorem gW_47 (h : gAll G) : gW G 47 := ⟨by decide, gk_47 h, gk_48 h, gl_48 h, gk_49 h, gl_49 h, gk_50 h, gl_50 h⟩
theorem gW_51 (h : gAll G) : gW G 51 := ⟨by decide, gk_51 h, gk_52 h, gl_52 h, gk_53 h, gl_53 h, gk_54 h, gl_54 h⟩
theorem gW_55 (h : gAll G) : gW G 55 := ⟨by decide, gk_55 h, gk_56 h, gl_56 h, gk_57 h, gl_57 h, gk_58 h, gl_58 h⟩
theorem gW_59 (h : gAll G) : gW G 59 := ⟨by decide, gk_59 h, gk_60 h, gl_60 h, gk_61 h, gl_61 h, gk_62 h, gl_62 h⟩
theorem gW_63 (h : gAll G) : gW G 63 := ⟨by decide, gk_63 h, gk_64 h, gl_64 h, gk_65 h, gl_65 h, gk_66 h, gl_66 h⟩
theorem gW_67 (h : gAll G) : gW G 67 := ⟨by decide, gk_67 h, gk_68 h, gl_68 h, gk_69 h, gl_69 h, gk_70 h, gl_70 h⟩
theorem gW_71 (h : gAll G) : gW G 71 := ⟨by decide, gk_71 h, gk_72 h, gl_72 h, gk_73 h, gl_73 h, gk_74 h, gl_74 h⟩
theorem gW_75 (h : gAll G) : gW G 75 := ⟨by decide, gk_75 h, gk_76 h, gl_76 h, gk_77 h, gl_77 h, gk_78 h, gl_78 h⟩
theorem gW_79 (h : gAll G) : gW G 79 := ⟨by decide, gk_79 h, gk_80 h, gl_80 h, gk_81 h, gl_81 h, gk_82 h, gl_82 h⟩
theorem gW_83 (h : gAll G) : gW G 83 := ⟨by decide, gk_83 h, gk_84 h, gl_84 h, gk_85 h, gl_85 h, gk_86 h, gl_86 h⟩
theorem gW_87 (h : gAll G) : gW G 87 := ⟨by decide, gk_87 h, gk_88 h, gl_88 h, gk_89 h, gl_89 h, gk_90 h, gl_90 h⟩
theorem gW_91 (h : gAll G) : gW G 91 := ⟨by decide, gk_91 h, gk_92 h, gl_92 h, gk_93 h, gl_93 h, gk_94 h, gl_94 h⟩
theorem gW_95 (h : gAll G) : gW G 95 := ⟨by decide, gk_95 h, gk_96 h, gl_96 h, gk_97 h, gl_97 h, gk_98 h, gl_98 h⟩
end TB
def pr0 (f : Int → Int) : Prop := f 0 = 1 ∧ f 4 = 24 ∧ f 5 = 28 ∧ f 6 = 32 ∧ f 7 = 36 ∧ f 8 = 99 ∧ f 9 = 106 ∧ f 10 = 115 ∧ f 11 = 117 ∧ f 12 = 122 ∧ f 13 = 123
theorem pr0.p0 {f : Int → Int} (h : pr0 f) : f 0 = 1 := h.1
theorem pr0.p4 {f : Int → Int} (h : pr0 f) : f 4 = 24 := h.2.1
theorem pr0.p5 {f : Int → Int} (h : pr0 f) : f 5 = 28 := h.2.2.1
theorem pr0.p6 {f : Int → Int} (h : pr0 f) : f 6 = 32 := h.2.2.2.1
theorem pr0.p7 {f : Int → Int} (h : pr0 f) : f 7 = 36 := h.2.2.2.2.1
theorem pr0.p8 {f : Int → Int} (h : pr0 f) : f 8 = 99 := h.2.2.2.2.2.1
theorem pr0.p9 {f : Int → Int} (h : pr0 f) : f 9 = 106 := h.2.2.2.2.2.2.1
theorem pr0.p10 {f : Int → Int} (h : pr0 f) : f 10 = 115 := h.2.2.2.2.2.2.2.1
theorem pr0.p11 {f : Int → Int} (h : pr0 f) : f 11 = 117 := h.2.2.2.2.2.2.2.2.1
theorem pr0.p12 {f : Int → Int} (h : pr0 f) : f 12 = 122 := h.2.2.2.2.2.2.2.2.2.1
theorem pr0.p13 {f : Int → Int} (h : pr0 f) : f 13 = 123 := h.2.2.2.2.2.2.2.2.2.2
theorem pr0.u {f g : Int → Int} (h : pr0 f) (e : ∀ k, k = 0 ∨ k = 4 ∨ k = 5 ∨ k = 6 ∨ k = 7 ∨ k = 8 ∨ k = 9 ∨ k = 10 ∨ k = 11 ∨ k = 12 ∨ k = 13 → g k = f k) : pr0 g := ⟨(e 0 (by decide)).trans h.p0, (e 4 (by decide)).trans h.p4, (e 5 (by decide)).trans h.p5, (e 6 (by decide)).trans h.p6, (e 7 (by decide)).trans h.p7, (e 8 (by decide)).trans h.p8, (e 9 (by decide)).trans h.p9, (e 10 (by decide)).trans h.p10, (e 11 (by decide)).trans h.p11, (e 12 (by decide)).trans h.p12, (e 13 (by decide)).trans h.p13⟩
def pr36 (f : Int → Int) : Prop := f 0 = 37 ∧ f 2 = 38
theorem pr36.p0 {f : Int → Int} (h : pr36 f) : f 0 = 37 := h.1
theorem pr36.p2 {f : Int → Int} (h : pr36 f) : f 2 = 38 := h.2
theorem pr36.u {f g : Int → Int} (h : pr36 f) (e : ∀ k, k = 0 ∨ k = 2 → g k = f k) : pr36 g := ⟨(e 0 (by decide)).trans h.p0, (e 2 (by decide)).trans h.p2⟩
def pr38 (f : Int → Int) : Prop := f 0 = 87 ∧ f 1 = 91 ∧ f 2 = 95
theorem pr38.p0 {f : Int → Int} (h : pr38 f) : f 0 = 87 := h.1
theorem pr38.p1 {f : Int → Int} (h : pr38 f) : f 1 = 91 := h.2.1
theorem pr38.p2 {f : Int → Int} (h : pr38 f) : f 2 = 95 := h.2.2
theorem pr38.u {f g : Int → Int} (h : pr38 f) (e : ∀ k, k = 0 ∨ k = 1 ∨ k = 2 → g k = f k) : pr38 g := ⟨(e 0 (by decide)).trans h.p0, (e 1 (by decide)).trans h.p1, (e 2 (by decide)).trans h.p2⟩
def pr99 (f : Int → Int) : Prop := f 3 = 100 ∧ f 4 = 101 ∧ f 5 = 102 ∧ f 6 = 103 ∧ f 7 = 104 ∧ f 8 = 105
theorem pr99.p3 {f : Int → Int} (h : pr99 f) : f 3 = 100 := h.1
theorem pr99.p4 {f : Int → Int} (h : pr99 f) : f 4 = 101 := h.2.1
theorem pr99.p5 {f : Int → Int} (h : pr99 f) : f 5 = 102 := h.2.2.1
theorem pr99.p6 {f : Int → Int} (h : pr99 f) : f 6 = 103 := h.2.2.2.1
theorem pr99.p7 {f : Int → Int} (h : pr99 f) : f 7 = 104 := h.2.2.2.2.1
theorem pr99.p8 {f : Int → Int} (h : pr99 f) : f 8 = 105 := h.2.2.2.2.2
theorem pr99.u {f g : Int → Int} (h : pr99 f) (e : ∀ k, k = 3 ∨ k = 4 ∨ k = 5 ∨ k = 6 ∨ k = 7 ∨ k = 8 → g k = f k) : pr99 g := ⟨(e 3 (by decide)).trans h.p3, (e 4 (by decide)).trans h.p4, (e 5 (by decide)).trans h.p5, (e 6 (by decide)).trans h.p6, (e 7 (by decide)).trans h.p7, (e 8 (by decide)).trans h.p8⟩
def pr106 (f : Int → Int) : Prop := f 0 = 99 ∧ f 1 = 111 ∧ f 2 = 107 ∧ f 4 = 108 ∧ f 5 = 109 ∧ f 6 = 110
theorem pr106.p0 {f : Int → Int} (h : pr106 f) : f 0 = 99 := h.1
theorem pr106.p1 {f : Int → Int} (h : pr106 f) : f 1 = 111 := h.2.1
theorem pr106.p2 {f : Int → Int} (h : pr106 f) : f 2 = 107 := h.2.2.1
theorem pr106.p4 {f : Int → Int} (h : pr106 f) : f 4 = 108 := h.2.2.2.1
theorem pr106.p5 {f : Int → Int} (h : pr106 f) : f 5 = 109 := h.2.2.2.2.1
theorem pr106.p6 {f : Int → Int} (h : pr106 f) : f 6 = 110 := h.2.2.2.2.2
theorem pr106.u {f g : Int → Int} (h : pr106 f) (e : ∀ k, k = 0 ∨ k = 1 ∨ k = 2 ∨ k = 4 ∨ k = 5 ∨ k = 6 → g k = f k) : pr106 g := ⟨(e 0 (by decide)).trans h.p0, (e 1 (by decide)).trans h.p1, (e 2 (by decide)).trans h.p2, (e 4 (by decide)).trans h.p4, (e 5 (by decide)).trans h.p5, (e 6 (by decide)).trans h.p6⟩
def pr111 (f : Int → Int) : Prop := f 0 = 99 ∧ f 3 = 114
theorem pr111.p0 {f : Int → Int} (h : pr111 f) : f 0 = 99 := h.1
theorem pr111.p3 {f : Int → Int} (h : pr111 f) : f 3 = 114 := h.2
theorem pr111.u {f g : Int → Int} (h : pr111 f) (e : ∀ k, k = 0 ∨ k = 3 → g k = f k) : pr111 g := ⟨(e 0 (by decide)).trans h.p0, (e 3 (by decide)).trans h.p3⟩
def pr115 (f : Int → Int) : Prop := f 0 = 99 ∧ f 2 = 116
theorem pr115.p0 {f : Int → Int} (h : pr115 f) : f 0 = 99 := h.1
theorem pr115.p2 {f : Int → Int} (h : pr115 f) : f 2 = 116 := h.2
theorem pr115.u {f g : Int → Int} (h : pr115 f) (e : ∀ k, k = 0 ∨ k = 2 → g k = f k) : pr115 g := ⟨(e 0 (by decide)).trans h.p0, (e 2 (by decide)).trans h.p2⟩
def pr117 (f : Int → Int) : Prop := f 0 = 118 ∧ f 3 = 119 ∧ f 4 = 120 ∧ f 5 = 121
theorem pr117.p0 {f : Int → Int} (h : pr117 f) : f 0 = 118 := h.1
theorem pr117.p3 {f : Int → Int} (h : pr117 f) : f 3 = 119 := h.2.1
theorem pr117.p4 {f : Int → Int} (h : pr117 f) : f 4 = 120 := h.2.2.1
theorem pr117.p5 {f : Int → Int} (h : pr117 f) : f 5 = 121 := h.2.2.2
theorem pr117.u {f g : Int → Int} (h : pr117 f) (e : ∀ k, k = 0 ∨ k = 3 ∨ k = 4 ∨ k = 5 → g k = f k) : pr117 g := ⟨(e 0 (by decide)).trans h.p0, (e 3 (by decide)).trans h.p3, (e 4 (by decide)).trans h.p4, (e 5 (by decide)).trans h.p5⟩
def pr124 (f : Int → Int) : Prop := f 5 = 125 ∧ f 17 = 126 ∧ f 18 = 127 ∧ f 19 = 128 ∧ f 22 = 129 ∧ f 23 = 130 ∧ f 24 = 131 ∧ f 25 = 132 ∧ f 27 = 133 ∧ f 28 = 134 ∧ f 30 = 135 ∧ f 31 = 136 ∧ f 32 = 137 ∧ f 33 = 138 ∧ f 34 = 139 ∧ f 35 = 140 ∧ f 37 = 141 ∧ f 38 = 142 ∧ f 39 = 143 ∧ f 40 = 144
theorem pr124.p5 {f : Int → Int} (h : pr124 f) : f 5 = 125 := h.1
theorem pr124.p17 {f : Int → Int} (h : pr124 f) : f 17 = 126 := h.2.1
theorem pr124.p18 {f : Int → Int} (h : pr124 f) : f 18 = 127 := h.2.2.1
theorem pr124.p19 {f : Int → Int} (h : pr124 f) : f 19 = 128 := h.2.2.2.1
theorem pr124.p22 {f : Int → Int} (h : pr124 f) : f 22 = 129 := h.2.2.2.2.1
theorem pr124.p23 {f : Int → Int} (h : pr124 f) : f 23 = 130 := h.2.2.2.2.2.1
theorem pr124.p24 {f : Int → Int} (h : pr124 f) : f 24 = 131 := h.2.2.2.2.2.2.1
theorem pr124.p25 {f : Int → Int} (h : pr124 f) : f 25 = 132 := h.2.2.2.2.2.2.2.1
theorem pr124.p27 {f : Int → Int} (h : pr124 f) : f 27 = 133 := h.2.2.2.2.2.2.2.2.1
theorem pr124.p28 {f : Int → Int} (h : pr124 f) : f 28 = 134 := h.2.2.2.2.2.2.2.2.2.1
theorem pr124.p30 {f : Int → Int} (h : pr124 f) : f 30 = 135 := h.2.2.2.2.2.2.2.2.2.2.1
theorem pr124.p31 {f : Int → Int} (h : pr124 f) : f 31 = 136 := h.2.2.2.2.2.2.2.2.2.2.2.1
theorem pr124.p32 {f : Int → Int} (h : pr124 f) : f 32 = 137 := h.2.2.2.2.2.2.2.2.2.2.2.2.1
theorem pr124.p33 {f : Int → Int} (h : pr124 f) : f 33 = 138 := h.2.2.2.2.2.2.2.2.2.2.2.2.2.1
theorem pr124.p34 {f : Int → Int} (h : pr124 f) : f 34 = 139 := h.2.2.2.2.2.2.2.2.2.2.2.2.2.2.1
theorem pr124.p35 {f : Int → Int} (h : pr124 f) : f 35 = 140 := h.2.2.2.2.2.2.2.2.2.2.2.2.2.2.2.1
theorem pr124.p37 {f : Int → Int} (h : pr124 f) : f 37 = 141 := h.2.2.2.2.2.2.2.2.2.2.2.2.2.2.2.2.1
theorem pr124.p38 {f : Int → Int} (h : pr124 f) : f 38 = 142 := h.2.2.2.2.2.2.2.2.2.2.2.2.2.2.2.2.2.1
theorem pr124.p39 {f : Int → Int} (h : pr124 f) : f 39 = 143 := h.2.2.2.2.2.2.2.2.2.2.2.2.2.2.2.2.2.2.1
theorem pr124.p40 {f : Int → Int} (h : pr124 f) : f 40 = 144 := h.2.2.2.2.2.2.2.2.2.2.2.2.2.2.2.2.2.2.2
theorem pr124.u {f g : Int → Int} (h : pr124 f) (e : ∀ k, k = 5 ∨ k = 17 ∨ k = 18 ∨ k = 19 ∨ k = 22 ∨ k = 23 ∨ k = 24 ∨ k = 25 ∨ k = 27 ∨ k = 28 ∨ k = 30 ∨ k = 31 ∨ k = 32 ∨ k = 33 ∨ k = 34 ∨ k = 35 ∨ k = 37 ∨ k = 38 ∨ k = 39 ∨ k = 40 → g k = f k) : pr124 g := ⟨(e 5 (by decide)).trans h.p5, (e 17 (by decide)).trans h.p17, (e 18 (by decide)).trans h.p18, (e 19 (by decide)).trans h.p19, (e 22 (by decide)).trans h.p22, (e 23 (by decide)).trans h.p23, (e 24 (by decide)).trans h.p24, (e 25 (by decide)).trans h.p25, (e 27 (by decide)).trans h.p27, (e 28 (by decide)).trans h.p28, (e 30 (by decide)).trans h.p30, (e 31 (by decide)).trans h.p31, (e 32 (by decide)).trans h.p32, (e 33 (by decide)).trans h.p33, (e 34 (by decide)).trans h.p34, (e 35 (by decide)).trans h.p35, (e 37 (by decide)).trans h.p37, (e 38 (by decide)).trans h.p38, (e 39 (by decide)).trans h.p39, (e 40 (by decide)).trans h.p40⟩
