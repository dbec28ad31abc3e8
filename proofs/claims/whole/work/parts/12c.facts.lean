/-! facts: listings, links, geometry -/
section WFacts
def gKl : List Nat := [9, 21, 7, 20, 20, 20, 20, 20, 4, 20, 20, 3, 7, 20, 20, 20, 20, 20, 4, 20, 20, 5, 0, 20, 20, 20, 20, 6, 20, 20, 20, 20, 20, 20, 20, 5, 0, 20, 20, 20, 20, 6, 20, 20, 20, 20, 20, 20, 20, 8, 20, 20, 20, 6, 20, 20, 20, 20, 20, 20, 20, 2, 20, 20, 20, 20, 1, 20, 10, 23, 23, 20, 20, 20, 20, 20, 20, 20, 20, 20, 20, 20, 20, 20, 20, 20, 20, 20, 20, 20, 20, 22, 20, 20, 20, 20, 20, 20, 20, 20, 20, 20, 20, 20, 22]
def gLl : List Nat := [0, 600, 0, 10, 10, 10, 10, 10, 0, 600, 40, 0, 0, 10, 10, 10, 10, 10, 0, 600, 40, 0, 0, 560, 8, 8, 3, 0, 10, 10, 10, 10, 10, 10, 10, 0, 0, 560, 8, 8, 3, 0, 10, 10, 10, 10, 10, 10, 10, 0, 81, 81, 10, 0, 10, 10, 10, 10, 10, 10, 10, 0, 10, 1024, 1024, 1024, 0, 73, 0, 4, 6, 4, 8, 20, 20, 20, 20, 20, 1200, 3, 600, 10, 10, 10, 10, 1720, 6, 64, 43, 1024, 1024, 1024, 81, 81, 8, 8, 200, 200, 200, 43, 1720, 8, 8, 3, 1]
def gRl : List (Nat × Nat × Nat) := [(0, 0, 1), (0, 4, 11), (0, 5, 2), (0, 6, 12), (0, 7, 21), (0, 8, 35), (0, 9, 49), (0, 10, 61), (0, 11, 66), (2, 3, 3), (2, 4, 4), (2, 5, 5), (2, 6, 6), (2, 7, 7), (2, 8, 8), (8, 0, 9), (8, 8, 10), (11, 1, 1), (11, 2, 2), (12, 3, 13), (12, 4, 14), (12, 5, 15), (12, 6, 16), (12, 7, 17), (12, 8, 18), (18, 0, 19), (18, 8, 20), (21, 0, 27), (21, 1, 22), (21, 3, 24), (21, 4, 25), (21, 5, 26), (22, 1, 23), (27, 0, 12), (27, 4, 28), (27, 5, 29), (27, 6, 30), (27, 7, 31), (27, 8, 32), (27, 9, 33), (27, 10, 34), (35, 0, 41), (35, 1, 36), (35, 3, 38), (35, 4, 39), (35, 5, 40), (36, 1, 37), (41, 0, 12), (41, 4, 42), (41, 5, 43), (41, 6, 44), (41, 7, 45), (41, 8, 46), (41, 9, 47), (41, 10, 48), (49, 0, 12), (49, 1, 27), (49, 2, 53), (49, 11, 52), (53, 0, 12), (53, 4, 54), (53, 5, 55), (53, 6, 56), (53, 7, 57), (53, 8, 58), (53, 9, 59), (53, 10, 60), (61, 0, 12), (61, 1, 21), (61, 3, 62), (61, 4, 63), (61, 5, 64), (61, 6, 65), (66, 0, 12), (66, 1, 21), (66, 2, 67), (68, 0, 69), (68, 1, 70), (68, 2, 71), (68, 4, 72), (68, 5, 73), (68, 6, 74), (68, 7, 75), (68, 8, 76), (68, 9, 77), (68, 10, 78), (68, 11, 79), (68, 12, 80), (68, 23, 81), (68, 24, 82), (68, 25, 83), (68, 26, 84), (68, 27, 85), (68, 33, 86), (68, 34, 87), (68, 35, 88), (68, 36, 89), (68, 37, 90), (68, 38, 91), (68, 41, 92), (68, 42, 93), (68, 43, 94), (68, 44, 95), (68, 45, 96), (68, 46, 97), (68, 48, 98), (68, 53, 99), (68, 54, 100), (68, 55, 101), (68, 56, 102), (68, 57, 103), (69, 0, 1002), (69, 1, 1003), (69, 2, 1004), (69, 3, 1005), (70, 0, 1010), (70, 1, 1011), (70, 2, 1012), (70, 3, 1013), (70, 4, 1014), (70, 5, 1015)]
/-- how the cells hang together behind the constructors -/
def Geo (G : pG) (SL p q : Nat) : Prop := gN G = 105 ∧ (∀ i, i < 105 → gK G i = gKl.getD i 0) ∧ (∀ i, i < 105 → gL G i = gLl.getD i 0) ∧ (∀ e ∈ gRl, gR G e.1 e.2.1 = e.2.2 + 1) ∧ gK G 2000 = 30 ∧ gL G 2000 = SL ∧ gR G 49 9 = p + 1 ∧ gR G 49 10 = q + 1 ∧ ((p = 50 ∧ q = 51) ∨ (p = 51 ∧ q = 50))
variable {G : pG} {SL p q t : Nat}
theorem k_0 (h : Geo G SL p q) : gK G 0 = 9 := h.2.1 0 (by decide)
theorem k_1 (h : Geo G SL p q) : gK G 1 = 21 := h.2.1 1 (by decide)
theorem k_2 (h : Geo G SL p q) : gK G 2 = 7 := h.2.1 2 (by decide)
theorem k_3 (h : Geo G SL p q) : gK G 3 = 20 := h.2.1 3 (by decide)
theorem k_4 (h : Geo G SL p q) : gK G 4 = 20 := h.2.1 4 (by decide)
theorem k_5 (h : Geo G SL p q) : gK G 5 = 20 := h.2.1 5 (by decide)
theorem k_6 (h : Geo G SL p q) : gK G 6 = 20 := h.2.1 6 (by decide)
theorem k_7 (h : Geo G SL p q) : gK G 7 = 20 := h.2.1 7 (by decide)
theorem k_8 (h : Geo G SL p q) : gK G 8 = 4 := h.2.1 8 (by decide)
theorem k_9 (h : Geo G SL p q) : gK G 9 = 20 := h.2.1 9 (by decide)
theorem k_10 (h : Geo G SL p q) : gK G 10 = 20 := h.2.1 10 (by decide)
theorem k_11 (h : Geo G SL p q) : gK G 11 = 3 := h.2.1 11 (by decide)
theorem k_12 (h : Geo G SL p q) : gK G 12 = 7 := h.2.1 12 (by decide)
theorem k_13 (h : Geo G SL p q) : gK G 13 = 20 := h.2.1 13 (by decide)
theorem k_14 (h : Geo G SL p q) : gK G 14 = 20 := h.2.1 14 (by decide)
theorem k_15 (h : Geo G SL p q) : gK G 15 = 20 := h.2.1 15 (by decide)
theorem k_16 (h : Geo G SL p q) : gK G 16 = 20 := h.2.1 16 (by decide)
theorem k_17 (h : Geo G SL p q) : gK G 17 = 20 := h.2.1 17 (by decide)
theorem k_18 (h : Geo G SL p q) : gK G 18 = 4 := h.2.1 18 (by decide)
theorem k_19 (h : Geo G SL p q) : gK G 19 = 20 := h.2.1 19 (by decide)
theorem k_20 (h : Geo G SL p q) : gK G 20 = 20 := h.2.1 20 (by decide)
theorem k_21 (h : Geo G SL p q) : gK G 21 = 5 := h.2.1 21 (by decide)
theorem k_22 (h : Geo G SL p q) : gK G 22 = 0 := h.2.1 22 (by decide)
theorem k_23 (h : Geo G SL p q) : gK G 23 = 20 := h.2.1 23 (by decide)
theorem k_24 (h : Geo G SL p q) : gK G 24 = 20 := h.2.1 24 (by decide)
theorem k_25 (h : Geo G SL p q) : gK G 25 = 20 := h.2.1 25 (by decide)
theorem k_26 (h : Geo G SL p q) : gK G 26 = 20 := h.2.1 26 (by decide)
theorem k_27 (h : Geo G SL p q) : gK G 27 = 6 := h.2.1 27 (by decide)
theorem k_28 (h : Geo G SL p q) : gK G 28 = 20 := h.2.1 28 (by decide)
theorem k_29 (h : Geo G SL p q) : gK G 29 = 20 := h.2.1 29 (by decide)
theorem k_30 (h : Geo G SL p q) : gK G 30 = 20 := h.2.1 30 (by decide)
theorem k_31 (h : Geo G SL p q) : gK G 31 = 20 := h.2.1 31 (by decide)
theorem k_32 (h : Geo G SL p q) : gK G 32 = 20 := h.2.1 32 (by decide)
theorem k_33 (h : Geo G SL p q) : gK G 33 = 20 := h.2.1 33 (by decide)
theorem k_34 (h : Geo G SL p q) : gK G 34 = 20 := h.2.1 34 (by decide)
theorem k_35 (h : Geo G SL p q) : gK G 35 = 5 := h.2.1 35 (by decide)
theorem k_36 (h : Geo G SL p q) : gK G 36 = 0 := h.2.1 36 (by decide)
theorem k_37 (h : Geo G SL p q) : gK G 37 = 20 := h.2.1 37 (by decide)
theorem k_38 (h : Geo G SL p q) : gK G 38 = 20 := h.2.1 38 (by decide)
theorem k_39 (h : Geo G SL p q) : gK G 39 = 20 := h.2.1 39 (by decide)
theorem k_40 (h : Geo G SL p q) : gK G 40 = 20 := h.2.1 40 (by decide)
theorem k_41 (h : Geo G SL p q) : gK G 41 = 6 := h.2.1 41 (by decide)
theorem k_42 (h : Geo G SL p q) : gK G 42 = 20 := h.2.1 42 (by decide)
theorem k_43 (h : Geo G SL p q) : gK G 43 = 20 := h.2.1 43 (by decide)
theorem k_44 (h : Geo G SL p q) : gK G 44 = 20 := h.2.1 44 (by decide)
theorem k_45 (h : Geo G SL p q) : gK G 45 = 20 := h.2.1 45 (by decide)
theorem k_46 (h : Geo G SL p q) : gK G 46 = 20 := h.2.1 46 (by decide)
theorem k_47 (h : Geo G SL p q) : gK G 47 = 20 := h.2.1 47 (by decide)
theorem k_48 (h : Geo G SL p q) : gK G 48 = 20 := h.2.1 48 (by decide)
theorem k_49 (h : Geo G SL p q) : gK G 49 = 8 := h.2.1 49 (by decide)
theorem k_50 (h : Geo G SL p q) : gK G 50 = 20 := h.2.1 50 (by decide)
theorem k_51 (h : Geo G SL p q) : gK G 51 = 20 := h.2.1 51 (by decide)
theorem k_52 (h : Geo G SL p q) : gK G 52 = 20 := h.2.1 52 (by decide)
theorem k_53 (h : Geo G SL p q) : gK G 53 = 6 := h.2.1 53 (by decide)
theorem k_54 (h : Geo G SL p q) : gK G 54 = 20 := h.2.1 54 (by decide)
theorem k_55 (h : Geo G SL p q) : gK G 55 = 20 := h.2.1 55 (by decide)
theorem k_56 (h : Geo G SL p q) : gK G 56 = 20 := h.2.1 56 (by decide)
theorem k_57 (h : Geo G SL p q) : gK G 57 = 20 := h.2.1 57 (by decide)
theorem k_58 (h : Geo G SL p q) : gK G 58 = 20 := h.2.1 58 (by decide)
theorem k_59 (h : Geo G SL p q) : gK G 59 = 20 := h.2.1 59 (by decide)
theorem k_60 (h : Geo G SL p q) : gK G 60 = 20 := h.2.1 60 (by decide)
theorem k_61 (h : Geo G SL p q) : gK G 61 = 2 := h.2.1 61 (by decide)
theorem k_62 (h : Geo G SL p q) : gK G 62 = 20 := h.2.1 62 (by decide)
theorem k_63 (h : Geo G SL p q) : gK G 63 = 20 := h.2.1 63 (by decide)
theorem k_64 (h : Geo G SL p q) : gK G 64 = 20 := h.2.1 64 (by decide)
theorem k_65 (h : Geo G SL p q) : gK G 65 = 20 := h.2.1 65 (by decide)
theorem k_66 (h : Geo G SL p q) : gK G 66 = 1 := h.2.1 66 (by decide)
theorem k_67 (h : Geo G SL p q) : gK G 67 = 20 := h.2.1 67 (by decide)
theorem k_68 (h : Geo G SL p q) : gK G 68 = 10 := h.2.1 68 (by decide)
theorem k_69 (h : Geo G SL p q) : gK G 69 = 23 := h.2.1 69 (by decide)
theorem k_70 (h : Geo G SL p q) : gK G 70 = 23 := h.2.1 70 (by decide)
theorem k_71 (h : Geo G SL p q) : gK G 71 = 20 := h.2.1 71 (by decide)
theorem k_72 (h : Geo G SL p q) : gK G 72 = 20 := h.2.1 72 (by decide)
theorem k_73 (h : Geo G SL p q) : gK G 73 = 20 := h.2.1 73 (by decide)
theorem k_74 (h : Geo G SL p q) : gK G 74 = 20 := h.2.1 74 (by decide)
theorem k_75 (h : Geo G SL p q) : gK G 75 = 20 := h.2.1 75 (by decide)
theorem k_76 (h : Geo G SL p q) : gK G 76 = 20 := h.2.1 76 (by decide)
theorem k_77 (h : Geo G SL p q) : gK G 77 = 20 := h.2.1 77 (by decide)
theorem k_78 (h : Geo G SL p q) : gK G 78 = 20 := h.2.1 78 (by decide)
theorem k_79 (h : Geo G SL p q) : gK G 79 = 20 := h.2.1 79 (by decide)
theorem k_80 (h : Geo G SL p q) : gK G 80 = 20 := h.2.1 80 (by decide)
theorem k_81 (h : Geo G SL p q) : gK G 81 = 20 := h.2.1 81 (by decide)
theorem k_82 (h : Geo G SL p q) : gK G 82 = 20 := h.2.1 82 (by decide)
theorem k_83 (h : Geo G SL p q) : gK G 83 = 20 := h.2.1 83 (by decide)
theorem k_84 (h : Geo G SL p q) : gK G 84 = 20 := h.2.1 84 (by decide)
theorem k_85 (h : Geo G SL p q) : gK G 85 = 20 := h.2.1 85 (by decide)
theorem k_86 (h : Geo G SL p q) : gK G 86 = 20 := h.2.1 86 (by decide)
theorem k_87 (h : Geo G SL p q) : gK G 87 = 20 := h.2.1 87 (by decide)
theorem k_88 (h : Geo G SL p q) : gK G 88 = 20 := h.2.1 88 (by decide)
theorem k_89 (h : Geo G SL p q) : gK G 89 = 20 := h.2.1 89 (by decide)
theorem k_90 (h : Geo G SL p q) : gK G 90 = 20 := h.2.1 90 (by decide)
theorem k_91 (h : Geo G SL p q) : gK G 91 = 22 := h.2.1 91 (by decide)
theorem k_92 (h : Geo G SL p q) : gK G 92 = 20 := h.2.1 92 (by decide)
theorem k_93 (h : Geo G SL p q) : gK G 93 = 20 := h.2.1 93 (by decide)
theorem k_94 (h : Geo G SL p q) : gK G 94 = 20 := h.2.1 94 (by decide)
theorem k_95 (h : Geo G SL p q) : gK G 95 = 20 := h.2.1 95 (by decide)
theorem k_96 (h : Geo G SL p q) : gK G 96 = 20 := h.2.1 96 (by decide)
theorem k_97 (h : Geo G SL p q) : gK G 97 = 20 := h.2.1 97 (by decide)
theorem k_98 (h : Geo G SL p q) : gK G 98 = 20 := h.2.1 98 (by decide)
theorem k_99 (h : Geo G SL p q) : gK G 99 = 20 := h.2.1 99 (by decide)
theorem k_100 (h : Geo G SL p q) : gK G 100 = 20 := h.2.1 100 (by decide)
theorem k_101 (h : Geo G SL p q) : gK G 101 = 20 := h.2.1 101 (by decide)
theorem k_102 (h : Geo G SL p q) : gK G 102 = 20 := h.2.1 102 (by decide)
theorem k_103 (h : Geo G SL p q) : gK G 103 = 20 := h.2.1 103 (by decide)
theorem k_104 (h : Geo G SL p q) : gK G 104 = 22 := h.2.1 104 (by decide)
theorem l_1 (h : Geo G SL p q) : gL G 1 = 600 := h.2.2.1 1 (by decide)
theorem l_3 (h : Geo G SL p q) : gL G 3 = 10 := h.2.2.1 3 (by decide)
theorem l_4 (h : Geo G SL p q) : gL G 4 = 10 := h.2.2.1 4 (by decide)
theorem l_5 (h : Geo G SL p q) : gL G 5 = 10 := h.2.2.1 5 (by decide)
theorem l_6 (h : Geo G SL p q) : gL G 6 = 10 := h.2.2.1 6 (by decide)
theorem l_7 (h : Geo G SL p q) : gL G 7 = 10 := h.2.2.1 7 (by decide)
theorem l_9 (h : Geo G SL p q) : gL G 9 = 600 := h.2.2.1 9 (by decide)
theorem l_10 (h : Geo G SL p q) : gL G 10 = 40 := h.2.2.1 10 (by decide)
theorem l_13 (h : Geo G SL p q) : gL G 13 = 10 := h.2.2.1 13 (by decide)
theorem l_14 (h : Geo G SL p q) : gL G 14 = 10 := h.2.2.1 14 (by decide)
theorem l_15 (h : Geo G SL p q) : gL G 15 = 10 := h.2.2.1 15 (by decide)
theorem l_16 (h : Geo G SL p q) : gL G 16 = 10 := h.2.2.1 16 (by decide)
theorem l_17 (h : Geo G SL p q) : gL G 17 = 10 := h.2.2.1 17 (by decide)
theorem l_19 (h : Geo G SL p q) : gL G 19 = 600 := h.2.2.1 19 (by decide)
theorem l_20 (h : Geo G SL p q) : gL G 20 = 40 := h.2.2.1 20 (by decide)
theorem l_23 (h : Geo G SL p q) : gL G 23 = 560 := h.2.2.1 23 (by decide)
theorem l_24 (h : Geo G SL p q) : gL G 24 = 8 := h.2.2.1 24 (by decide)
theorem l_25 (h : Geo G SL p q) : gL G 25 = 8 := h.2.2.1 25 (by decide)
theorem l_26 (h : Geo G SL p q) : gL G 26 = 3 := h.2.2.1 26 (by decide)
theorem l_28 (h : Geo G SL p q) : gL G 28 = 10 := h.2.2.1 28 (by decide)
theorem l_29 (h : Geo G SL p q) : gL G 29 = 10 := h.2.2.1 29 (by decide)
theorem l_30 (h : Geo G SL p q) : gL G 30 = 10 := h.2.2.1 30 (by decide)
theorem l_31 (h : Geo G SL p q) : gL G 31 = 10 := h.2.2.1 31 (by decide)
theorem l_32 (h : Geo G SL p q) : gL G 32 = 10 := h.2.2.1 32 (by decide)
theorem l_33 (h : Geo G SL p q) : gL G 33 = 10 := h.2.2.1 33 (by decide)
theorem l_34 (h : Geo G SL p q) : gL G 34 = 10 := h.2.2.1 34 (by decide)
theorem l_37 (h : Geo G SL p q) : gL G 37 = 560 := h.2.2.1 37 (by decide)
theorem l_38 (h : Geo G SL p q) : gL G 38 = 8 := h.2.2.1 38 (by decide)
theorem l_39 (h : Geo G SL p q) : gL G 39 = 8 := h.2.2.1 39 (by decide)
theorem l_40 (h : Geo G SL p q) : gL G 40 = 3 := h.2.2.1 40 (by decide)
theorem l_42 (h : Geo G SL p q) : gL G 42 = 10 := h.2.2.1 42 (by decide)
theorem l_43 (h : Geo G SL p q) : gL G 43 = 10 := h.2.2.1 43 (by decide)
theorem l_44 (h : Geo G SL p q) : gL G 44 = 10 := h.2.2.1 44 (by decide)
theorem l_45 (h : Geo G SL p q) : gL G 45 = 10 := h.2.2.1 45 (by decide)
theorem l_46 (h : Geo G SL p q) : gL G 46 = 10 := h.2.2.1 46 (by decide)
theorem l_47 (h : Geo G SL p q) : gL G 47 = 10 := h.2.2.1 47 (by decide)
theorem l_48 (h : Geo G SL p q) : gL G 48 = 10 := h.2.2.1 48 (by decide)
theorem l_50 (h : Geo G SL p q) : gL G 50 = 81 := h.2.2.1 50 (by decide)
theorem l_51 (h : Geo G SL p q) : gL G 51 = 81 := h.2.2.1 51 (by decide)
theorem l_52 (h : Geo G SL p q) : gL G 52 = 10 := h.2.2.1 52 (by decide)
theorem l_54 (h : Geo G SL p q) : gL G 54 = 10 := h.2.2.1 54 (by decide)
theorem l_55 (h : Geo G SL p q) : gL G 55 = 10 := h.2.2.1 55 (by decide)
theorem l_56 (h : Geo G SL p q) : gL G 56 = 10 := h.2.2.1 56 (by decide)
theorem l_57 (h : Geo G SL p q) : gL G 57 = 10 := h.2.2.1 57 (by decide)
theorem l_58 (h : Geo G SL p q) : gL G 58 = 10 := h.2.2.1 58 (by decide)
theorem l_59 (h : Geo G SL p q) : gL G 59 = 10 := h.2.2.1 59 (by decide)
theorem l_60 (h : Geo G SL p q) : gL G 60 = 10 := h.2.2.1 60 (by decide)
theorem l_62 (h : Geo G SL p q) : gL G 62 = 10 := h.2.2.1 62 (by decide)
theorem l_63 (h : Geo G SL p q) : gL G 63 = 1024 := h.2.2.1 63 (by decide)
theorem l_64 (h : Geo G SL p q) : gL G 64 = 1024 := h.2.2.1 64 (by decide)
theorem l_65 (h : Geo G SL p q) : gL G 65 = 1024 := h.2.2.1 65 (by decide)
theorem l_67 (h : Geo G SL p q) : gL G 67 = 73 := h.2.2.1 67 (by decide)
theorem l_69 (h : Geo G SL p q) : gL G 69 = 4 := h.2.2.1 69 (by decide)
theorem l_70 (h : Geo G SL p q) : gL G 70 = 6 := h.2.2.1 70 (by decide)
theorem l_71 (h : Geo G SL p q) : gL G 71 = 4 := h.2.2.1 71 (by decide)
theorem l_72 (h : Geo G SL p q) : gL G 72 = 8 := h.2.2.1 72 (by decide)
theorem l_73 (h : Geo G SL p q) : gL G 73 = 20 := h.2.2.1 73 (by decide)
theorem l_74 (h : Geo G SL p q) : gL G 74 = 20 := h.2.2.1 74 (by decide)
theorem l_75 (h : Geo G SL p q) : gL G 75 = 20 := h.2.2.1 75 (by decide)
theorem l_76 (h : Geo G SL p q) : gL G 76 = 20 := h.2.2.1 76 (by decide)
theorem l_77 (h : Geo G SL p q) : gL G 77 = 20 := h.2.2.1 77 (by decide)
theorem l_78 (h : Geo G SL p q) : gL G 78 = 1200 := h.2.2.1 78 (by decide)
theorem l_79 (h : Geo G SL p q) : gL G 79 = 3 := h.2.2.1 79 (by decide)
theorem l_80 (h : Geo G SL p q) : gL G 80 = 600 := h.2.2.1 80 (by decide)
theorem l_81 (h : Geo G SL p q) : gL G 81 = 10 := h.2.2.1 81 (by decide)
theorem l_82 (h : Geo G SL p q) : gL G 82 = 10 := h.2.2.1 82 (by decide)
theorem l_83 (h : Geo G SL p q) : gL G 83 = 10 := h.2.2.1 83 (by decide)
theorem l_84 (h : Geo G SL p q) : gL G 84 = 10 := h.2.2.1 84 (by decide)
theorem l_85 (h : Geo G SL p q) : gL G 85 = 1720 := h.2.2.1 85 (by decide)
theorem l_86 (h : Geo G SL p q) : gL G 86 = 6 := h.2.2.1 86 (by decide)
theorem l_87 (h : Geo G SL p q) : gL G 87 = 64 := h.2.2.1 87 (by decide)
theorem l_88 (h : Geo G SL p q) : gL G 88 = 43 := h.2.2.1 88 (by decide)
theorem l_89 (h : Geo G SL p q) : gL G 89 = 1024 := h.2.2.1 89 (by decide)
theorem l_90 (h : Geo G SL p q) : gL G 90 = 1024 := h.2.2.1 90 (by decide)
theorem l_91 (h : Geo G SL p q) : gL G 91 = 1024 := h.2.2.1 91 (by decide)
theorem l_92 (h : Geo G SL p q) : gL G 92 = 81 := h.2.2.1 92 (by decide)
theorem l_93 (h : Geo G SL p q) : gL G 93 = 81 := h.2.2.1 93 (by decide)
theorem l_94 (h : Geo G SL p q) : gL G 94 = 8 := h.2.2.1 94 (by decide)
theorem l_95 (h : Geo G SL p q) : gL G 95 = 8 := h.2.2.1 95 (by decide)
theorem l_96 (h : Geo G SL p q) : gL G 96 = 200 := h.2.2.1 96 (by decide)
theorem l_97 (h : Geo G SL p q) : gL G 97 = 200 := h.2.2.1 97 (by decide)
theorem l_98 (h : Geo G SL p q) : gL G 98 = 200 := h.2.2.1 98 (by decide)
theorem l_99 (h : Geo G SL p q) : gL G 99 = 43 := h.2.2.1 99 (by decide)
theorem l_100 (h : Geo G SL p q) : gL G 100 = 1720 := h.2.2.1 100 (by decide)
theorem l_101 (h : Geo G SL p q) : gL G 101 = 8 := h.2.2.1 101 (by decide)
theorem l_102 (h : Geo G SL p q) : gL G 102 = 8 := h.2.2.1 102 (by decide)
theorem l_103 (h : Geo G SL p q) : gL G 103 = 3 := h.2.2.1 103 (by decide)
theorem l_104 (h : Geo G SL p q) : gL G 104 = 1 := h.2.2.1 104 (by decide)
theorem r_0_0 (h : Geo G SL p q) : gR G 0 0 = 1 + 1 := h.2.2.2.1 (0, 0, 1) (by decide)
theorem r_0_4 (h : Geo G SL p q) : gR G 0 4 = 11 + 1 := h.2.2.2.1 (0, 4, 11) (by decide)
theorem r_0_5 (h : Geo G SL p q) : gR G 0 5 = 2 + 1 := h.2.2.2.1 (0, 5, 2) (by decide)
theorem r_0_6 (h : Geo G SL p q) : gR G 0 6 = 12 + 1 := h.2.2.2.1 (0, 6, 12) (by decide)
theorem r_0_7 (h : Geo G SL p q) : gR G 0 7 = 21 + 1 := h.2.2.2.1 (0, 7, 21) (by decide)
theorem r_0_8 (h : Geo G SL p q) : gR G 0 8 = 35 + 1 := h.2.2.2.1 (0, 8, 35) (by decide)
theorem r_0_9 (h : Geo G SL p q) : gR G 0 9 = 49 + 1 := h.2.2.2.1 (0, 9, 49) (by decide)
theorem r_0_10 (h : Geo G SL p q) : gR G 0 10 = 61 + 1 := h.2.2.2.1 (0, 10, 61) (by decide)
theorem r_0_11 (h : Geo G SL p q) : gR G 0 11 = 66 + 1 := h.2.2.2.1 (0, 11, 66) (by decide)
theorem r_2_3 (h : Geo G SL p q) : gR G 2 3 = 3 + 1 := h.2.2.2.1 (2, 3, 3) (by decide)
theorem r_2_4 (h : Geo G SL p q) : gR G 2 4 = 4 + 1 := h.2.2.2.1 (2, 4, 4) (by decide)
theorem r_2_5 (h : Geo G SL p q) : gR G 2 5 = 5 + 1 := h.2.2.2.1 (2, 5, 5) (by decide)
theorem r_2_6 (h : Geo G SL p q) : gR G 2 6 = 6 + 1 := h.2.2.2.1 (2, 6, 6) (by decide)
theorem r_2_7 (h : Geo G SL p q) : gR G 2 7 = 7 + 1 := h.2.2.2.1 (2, 7, 7) (by decide)
theorem r_2_8 (h : Geo G SL p q) : gR G 2 8 = 8 + 1 := h.2.2.2.1 (2, 8, 8) (by decide)
theorem r_8_0 (h : Geo G SL p q) : gR G 8 0 = 9 + 1 := h.2.2.2.1 (8, 0, 9) (by decide)
theorem r_8_8 (h : Geo G SL p q) : gR G 8 8 = 10 + 1 := h.2.2.2.1 (8, 8, 10) (by decide)
theorem r_11_1 (h : Geo G SL p q) : gR G 11 1 = 1 + 1 := h.2.2.2.1 (11, 1, 1) (by decide)
theorem r_11_2 (h : Geo G SL p q) : gR G 11 2 = 2 + 1 := h.2.2.2.1 (11, 2, 2) (by decide)
theorem r_12_3 (h : Geo G SL p q) : gR G 12 3 = 13 + 1 := h.2.2.2.1 (12, 3, 13) (by decide)
theorem r_12_4 (h : Geo G SL p q) : gR G 12 4 = 14 + 1 := h.2.2.2.1 (12, 4, 14) (by decide)
theorem r_12_5 (h : Geo G SL p q) : gR G 12 5 = 15 + 1 := h.2.2.2.1 (12, 5, 15) (by decide)
theorem r_12_6 (h : Geo G SL p q) : gR G 12 6 = 16 + 1 := h.2.2.2.1 (12, 6, 16) (by decide)
theorem r_12_7 (h : Geo G SL p q) : gR G 12 7 = 17 + 1 := h.2.2.2.1 (12, 7, 17) (by decide)
theorem r_12_8 (h : Geo G SL p q) : gR G 12 8 = 18 + 1 := h.2.2.2.1 (12, 8, 18) (by decide)
theorem r_18_0 (h : Geo G SL p q) : gR G 18 0 = 19 + 1 := h.2.2.2.1 (18, 0, 19) (by decide)
theorem r_18_8 (h : Geo G SL p q) : gR G 18 8 = 20 + 1 := h.2.2.2.1 (18, 8, 20) (by decide)
theorem r_21_0 (h : Geo G SL p q) : gR G 21 0 = 27 + 1 := h.2.2.2.1 (21, 0, 27) (by decide)
theorem r_21_1 (h : Geo G SL p q) : gR G 21 1 = 22 + 1 := h.2.2.2.1 (21, 1, 22) (by decide)
theorem r_21_3 (h : Geo G SL p q) : gR G 21 3 = 24 + 1 := h.2.2.2.1 (21, 3, 24) (by decide)
theorem r_21_4 (h : Geo G SL p q) : gR G 21 4 = 25 + 1 := h.2.2.2.1 (21, 4, 25) (by decide)
theorem r_21_5 (h : Geo G SL p q) : gR G 21 5 = 26 + 1 := h.2.2.2.1 (21, 5, 26) (by decide)
theorem r_22_1 (h : Geo G SL p q) : gR G 22 1 = 23 + 1 := h.2.2.2.1 (22, 1, 23) (by decide)
theorem r_27_0 (h : Geo G SL p q) : gR G 27 0 = 12 + 1 := h.2.2.2.1 (27, 0, 12) (by decide)
theorem r_27_4 (h : Geo G SL p q) : gR G 27 4 = 28 + 1 := h.2.2.2.1 (27, 4, 28) (by decide)
theorem r_27_5 (h : Geo G SL p q) : gR G 27 5 = 29 + 1 := h.2.2.2.1 (27, 5, 29) (by decide)
theorem r_27_6 (h : Geo G SL p q) : gR G 27 6 = 30 + 1 := h.2.2.2.1 (27, 6, 30) (by decide)
theorem r_27_7 (h : Geo G SL p q) : gR G 27 7 = 31 + 1 := h.2.2.2.1 (27, 7, 31) (by decide)
theorem r_27_8 (h : Geo G SL p q) : gR G 27 8 = 32 + 1 := h.2.2.2.1 (27, 8, 32) (by decide)
theorem r_27_9 (h : Geo G SL p q) : gR G 27 9 = 33 + 1 := h.2.2.2.1 (27, 9, 33) (by decide)
theorem r_27_10 (h : Geo G SL p q) : gR G 27 10 = 34 + 1 := h.2.2.2.1 (27, 10, 34) (by decide)
theorem r_35_0 (h : Geo G SL p q) : gR G 35 0 = 41 + 1 := h.2.2.2.1 (35, 0, 41) (by decide)
theorem r_35_1 (h : Geo G SL p q) : gR G 35 1 = 36 + 1 := h.2.2.2.1 (35, 1, 36) (by decide)
theorem r_35_3 (h : Geo G SL p q) : gR G 35 3 = 38 + 1 := h.2.2.2.1 (35, 3, 38) (by decide)
theorem r_35_4 (h : Geo G SL p q) : gR G 35 4 = 39 + 1 := h.2.2.2.1 (35, 4, 39) (by decide)
theorem r_35_5 (h : Geo G SL p q) : gR G 35 5 = 40 + 1 := h.2.2.2.1 (35, 5, 40) (by decide)
theorem r_36_1 (h : Geo G SL p q) : gR G 36 1 = 37 + 1 := h.2.2.2.1 (36, 1, 37) (by decide)
theorem r_41_0 (h : Geo G SL p q) : gR G 41 0 = 12 + 1 := h.2.2.2.1 (41, 0, 12) (by decide)
theorem r_41_4 (h : Geo G SL p q) : gR G 41 4 = 42 + 1 := h.2.2.2.1 (41, 4, 42) (by decide)
theorem r_41_5 (h : Geo G SL p q) : gR G 41 5 = 43 + 1 := h.2.2.2.1 (41, 5, 43) (by decide)
theorem r_41_6 (h : Geo G SL p q) : gR G 41 6 = 44 + 1 := h.2.2.2.1 (41, 6, 44) (by decide)
theorem r_41_7 (h : Geo G SL p q) : gR G 41 7 = 45 + 1 := h.2.2.2.1 (41, 7, 45) (by decide)
theorem r_41_8 (h : Geo G SL p q) : gR G 41 8 = 46 + 1 := h.2.2.2.1 (41, 8, 46) (by decide)
theorem r_41_9 (h : Geo G SL p q) : gR G 41 9 = 47 + 1 := h.2.2.2.1 (41, 9, 47) (by decide)
theorem r_41_10 (h : Geo G SL p q) : gR G 41 10 = 48 + 1 := h.2.2.2.1 (41, 10, 48) (by decide)
theorem r_49_0 (h : Geo G SL p q) : gR G 49 0 = 12 + 1 := h.2.2.2.1 (49, 0, 12) (by decide)
theorem r_49_1 (h : Geo G SL p q) : gR G 49 1 = 27 + 1 := h.2.2.2.1 (49, 1, 27) (by decide)
theorem r_49_2 (h : Geo G SL p q) : gR G 49 2 = 53 + 1 := h.2.2.2.1 (49, 2, 53) (by decide)
theorem r_49_11 (h : Geo G SL p q) : gR G 49 11 = 52 + 1 := h.2.2.2.1 (49, 11, 52) (by decide)
theorem r_53_0 (h : Geo G SL p q) : gR G 53 0 = 12 + 1 := h.2.2.2.1 (53, 0, 12) (by decide)
theorem r_53_4 (h : Geo G SL p q) : gR G 53 4 = 54 + 1 := h.2.2.2.1 (53, 4, 54) (by decide)
theorem r_53_5 (h : Geo G SL p q) : gR G 53 5 = 55 + 1 := h.2.2.2.1 (53, 5, 55) (by decide)
theorem r_53_6 (h : Geo G SL p q) : gR G 53 6 = 56 + 1 := h.2.2.2.1 (53, 6, 56) (by decide)
theorem r_53_7 (h : Geo G SL p q) : gR G 53 7 = 57 + 1 := h.2.2.2.1 (53, 7, 57) (by decide)
theorem r_53_8 (h : Geo G SL p q) : gR G 53 8 = 58 + 1 := h.2.2.2.1 (53, 8, 58) (by decide)
theorem r_53_9 (h : Geo G SL p q) : gR G 53 9 = 59 + 1 := h.2.2.2.1 (53, 9, 59) (by decide)
theorem r_53_10 (h : Geo G SL p q) : gR G 53 10 = 60 + 1 := h.2.2.2.1 (53, 10, 60) (by decide)
theorem r_61_0 (h : Geo G SL p q) : gR G 61 0 = 12 + 1 := h.2.2.2.1 (61, 0, 12) (by decide)
theorem r_61_1 (h : Geo G SL p q) : gR G 61 1 = 21 + 1 := h.2.2.2.1 (61, 1, 21) (by decide)
theorem r_61_3 (h : Geo G SL p q) : gR G 61 3 = 62 + 1 := h.2.2.2.1 (61, 3, 62) (by decide)
theorem r_61_4 (h : Geo G SL p q) : gR G 61 4 = 63 + 1 := h.2.2.2.1 (61, 4, 63) (by decide)
theorem r_61_5 (h : Geo G SL p q) : gR G 61 5 = 64 + 1 := h.2.2.2.1 (61, 5, 64) (by decide)
theorem r_61_6 (h : Geo G SL p q) : gR G 61 6 = 65 + 1 := h.2.2.2.1 (61, 6, 65) (by decide)
theorem r_66_0 (h : Geo G SL p q) : gR G 66 0 = 12 + 1 := h.2.2.2.1 (66, 0, 12) (by decide)
theorem r_66_1 (h : Geo G SL p q) : gR G 66 1 = 21 + 1 := h.2.2.2.1 (66, 1, 21) (by decide)
theorem r_66_2 (h : Geo G SL p q) : gR G 66 2 = 67 + 1 := h.2.2.2.1 (66, 2, 67) (by decide)
theorem r_68_0 (h : Geo G SL p q) : gR G 68 0 = 69 + 1 := h.2.2.2.1 (68, 0, 69) (by decide)
theorem r_68_1 (h : Geo G SL p q) : gR G 68 1 = 70 + 1 := h.2.2.2.1 (68, 1, 70) (by decide)
theorem r_68_2 (h : Geo G SL p q) : gR G 68 2 = 71 + 1 := h.2.2.2.1 (68, 2, 71) (by decide)
theorem r_68_4 (h : Geo G SL p q) : gR G 68 4 = 72 + 1 := h.2.2.2.1 (68, 4, 72) (by decide)
theorem r_68_5 (h : Geo G SL p q) : gR G 68 5 = 73 + 1 := h.2.2.2.1 (68, 5, 73) (by decide)
theorem r_68_6 (h : Geo G SL p q) : gR G 68 6 = 74 + 1 := h.2.2.2.1 (68, 6, 74) (by decide)
theorem r_68_7 (h : Geo G SL p q) : gR G 68 7 = 75 + 1 := h.2.2.2.1 (68, 7, 75) (by decide)
theorem r_68_8 (h : Geo G SL p q) : gR G 68 8 = 76 + 1 := h.2.2.2.1 (68, 8, 76) (by decide)
theorem r_68_9 (h : Geo G SL p q) : gR G 68 9 = 77 + 1 := h.2.2.2.1 (68, 9, 77) (by decide)
theorem r_68_10 (h : Geo G SL p q) : gR G 68 10 = 78 + 1 := h.2.2.2.1 (68, 10, 78) (by decide)
theorem r_68_11 (h : Geo G SL p q) : gR G 68 11 = 79 + 1 := h.2.2.2.1 (68, 11, 79) (by decide)
theorem r_68_12 (h : Geo G SL p q) : gR G 68 12 = 80 + 1 := h.2.2.2.1 (68, 12, 80) (by decide)
theorem r_68_23 (h : Geo G SL p q) : gR G 68 23 = 81 + 1 := h.2.2.2.1 (68, 23, 81) (by decide)
theorem r_68_24 (h : Geo G SL p q) : gR G 68 24 = 82 + 1 := h.2.2.2.1 (68, 24, 82) (by decide)
theorem r_68_25 (h : Geo G SL p q) : gR G 68 25 = 83 + 1 := h.2.2.2.1 (68, 25, 83) (by decide)
theorem r_68_26 (h : Geo G SL p q) : gR G 68 26 = 84 + 1 := h.2.2.2.1 (68, 26, 84) (by decide)
theorem r_68_27 (h : Geo G SL p q) : gR G 68 27 = 85 + 1 := h.2.2.2.1 (68, 27, 85) (by decide)
theorem r_68_33 (h : Geo G SL p q) : gR G 68 33 = 86 + 1 := h.2.2.2.1 (68, 33, 86) (by decide)
theorem r_68_34 (h : Geo G SL p q) : gR G 68 34 = 87 + 1 := h.2.2.2.1 (68, 34, 87) (by decide)
theorem r_68_35 (h : Geo G SL p q) : gR G 68 35 = 88 + 1 := h.2.2.2.1 (68, 35, 88) (by decide)
theorem r_68_36 (h : Geo G SL p q) : gR G 68 36 = 89 + 1 := h.2.2.2.1 (68, 36, 89) (by decide)
theorem r_68_37 (h : Geo G SL p q) : gR G 68 37 = 90 + 1 := h.2.2.2.1 (68, 37, 90) (by decide)
theorem r_68_38 (h : Geo G SL p q) : gR G 68 38 = 91 + 1 := h.2.2.2.1 (68, 38, 91) (by decide)
theorem r_68_41 (h : Geo G SL p q) : gR G 68 41 = 92 + 1 := h.2.2.2.1 (68, 41, 92) (by decide)
theorem r_68_42 (h : Geo G SL p q) : gR G 68 42 = 93 + 1 := h.2.2.2.1 (68, 42, 93) (by decide)
theorem r_68_43 (h : Geo G SL p q) : gR G 68 43 = 94 + 1 := h.2.2.2.1 (68, 43, 94) (by decide)
theorem r_68_44 (h : Geo G SL p q) : gR G 68 44 = 95 + 1 := h.2.2.2.1 (68, 44, 95) (by decide)
theorem r_68_45 (h : Geo G SL p q) : gR G 68 45 = 96 + 1 := h.2.2.2.1 (68, 45, 96) (by decide)
theorem r_68_46 (h : Geo G SL p q) : gR G 68 46 = 97 + 1 := h.2.2.2.1 (68, 46, 97) (by decide)
theorem r_68_48 (h : Geo G SL p q) : gR G 68 48 = 98 + 1 := h.2.2.2.1 (68, 48, 98) (by decide)
theorem r_68_53 (h : Geo G SL p q) : gR G 68 53 = 99 + 1 := h.2.2.2.1 (68, 53, 99) (by decide)
theorem r_68_54 (h : Geo G SL p q) : gR G 68 54 = 100 + 1 := h.2.2.2.1 (68, 54, 100) (by decide)
theorem r_68_55 (h : Geo G SL p q) : gR G 68 55 = 101 + 1 := h.2.2.2.1 (68, 55, 101) (by decide)
theorem r_68_56 (h : Geo G SL p q) : gR G 68 56 = 102 + 1 := h.2.2.2.1 (68, 56, 102) (by decide)
theorem r_68_57 (h : Geo G SL p q) : gR G 68 57 = 103 + 1 := h.2.2.2.1 (68, 57, 103) (by decide)
theorem r_69_0 (h : Geo G SL p q) : gR G 69 0 = 1002 + 1 := h.2.2.2.1 (69, 0, 1002) (by decide)
theorem r_69_1 (h : Geo G SL p q) : gR G 69 1 = 1003 + 1 := h.2.2.2.1 (69, 1, 1003) (by decide)
theorem r_69_2 (h : Geo G SL p q) : gR G 69 2 = 1004 + 1 := h.2.2.2.1 (69, 2, 1004) (by decide)
theorem r_69_3 (h : Geo G SL p q) : gR G 69 3 = 1005 + 1 := h.2.2.2.1 (69, 3, 1005) (by decide)
theorem r_70_0 (h : Geo G SL p q) : gR G 70 0 = 1010 + 1 := h.2.2.2.1 (70, 0, 1010) (by decide)
theorem r_70_1 (h : Geo G SL p q) : gR G 70 1 = 1011 + 1 := h.2.2.2.1 (70, 1, 1011) (by decide)
theorem r_70_2 (h : Geo G SL p q) : gR G 70 2 = 1012 + 1 := h.2.2.2.1 (70, 2, 1012) (by decide)
theorem r_70_3 (h : Geo G SL p q) : gR G 70 3 = 1013 + 1 := h.2.2.2.1 (70, 3, 1013) (by decide)
theorem r_70_4 (h : Geo G SL p q) : gR G 70 4 = 1014 + 1 := h.2.2.2.1 (70, 4, 1014) (by decide)
theorem r_70_5 (h : Geo G SL p q) : gR G 70 5 = 1015 + 1 := h.2.2.2.1 (70, 5, 1015) (by decide)
theorem r_49_9 (h : Geo G SL p q) : gR G 49 9 = p + 1 := h.2.2.2.2.2.2.1
theorem r_49_10 (h : Geo G SL p q) : gR G 49 10 = q + 1 := h.2.2.2.2.2.2.2.1
theorem k_scr (h : Geo G SL p q) : gK G 2000 = 30 := h.2.2.2.2.1
theorem l_scr (h : Geo G SL p q) : gL G 2000 = SL := h.2.2.2.2.2.1
theorem k_p (h : Geo G SL p q) : gK G p = 20 := by rcases h.2.2.2.2.2.2.2.2 with ⟨rfl, rfl⟩ | ⟨rfl, rfl⟩; exact k_50 h; exact k_51 h
theorem k_q (h : Geo G SL p q) : gK G q = 20 := by rcases h.2.2.2.2.2.2.2.2 with ⟨rfl, rfl⟩ | ⟨rfl, rfl⟩; exact k_51 h; exact k_50 h
theorem l_p (h : Geo G SL p q) : gL G p = 81 := by rcases h.2.2.2.2.2.2.2.2 with ⟨rfl, rfl⟩ | ⟨rfl, rfl⟩; exact l_50 h; exact l_51 h
theorem l_q (h : Geo G SL p q) : gL G q = 81 := by rcases h.2.2.2.2.2.2.2.2 with ⟨rfl, rfl⟩ | ⟨rfl, rfl⟩; exact l_51 h; exact l_50 h
theorem n_p (h : Geo G SL p q) : p < gN G := by rw [h.1]; rcases h.2.2.2.2.2.2.2.2 with ⟨rfl, rfl⟩ | ⟨rfl, rfl⟩ <;> decide
theorem n_q (h : Geo G SL p q) : q < gN G := by rw [h.1]; rcases h.2.2.2.2.2.2.2.2 with ⟨rfl, rfl⟩ | ⟨rfl, rfl⟩ <;> decide
theorem Geo_thr (h : Geo G SL p q) : Geo (gThr G) SL p q := h
def Tw (t : Nat) : Prop := t = 27 ∨ t = 53 ∨ t = 41
theorem tw_27 : Tw 27 := Or.inl rfl
theorem tw_53 : Tw 53 := Or.inr (Or.inl rfl)
theorem tw_41 : Tw 41 := Or.inr (Or.inr rfl)
theorem kT0 (h : Geo G SL p q) (ht : Tw t) : gK G t = 6 := by rcases ht with rfl | rfl | rfl; exact k_27 h; exact k_53 h; exact k_41 h
theorem kT1 (h : Geo G SL p q) (ht : Tw t) : gK G (t + 1) = 20 := by rcases ht with rfl | rfl | rfl; exact k_28 h; exact k_54 h; exact k_42 h
theorem kT2 (h : Geo G SL p q) (ht : Tw t) : gK G (t + 2) = 20 := by rcases ht with rfl | rfl | rfl; exact k_29 h; exact k_55 h; exact k_43 h
theorem kT3 (h : Geo G SL p q) (ht : Tw t) : gK G (t + 3) = 20 := by rcases ht with rfl | rfl | rfl; exact k_30 h; exact k_56 h; exact k_44 h
theorem kT4 (h : Geo G SL p q) (ht : Tw t) : gK G (t + 4) = 20 := by rcases ht with rfl | rfl | rfl; exact k_31 h; exact k_57 h; exact k_45 h
theorem kT5 (h : Geo G SL p q) (ht : Tw t) : gK G (t + 5) = 20 := by rcases ht with rfl | rfl | rfl; exact k_32 h; exact k_58 h; exact k_46 h
theorem kT6 (h : Geo G SL p q) (ht : Tw t) : gK G (t + 6) = 20 := by rcases ht with rfl | rfl | rfl; exact k_33 h; exact k_59 h; exact k_47 h
theorem kT7 (h : Geo G SL p q) (ht : Tw t) : gK G (t + 7) = 20 := by rcases ht with rfl | rfl | rfl; exact k_34 h; exact k_60 h; exact k_48 h
theorem lT1 (h : Geo G SL p q) (ht : Tw t) : gL G (t + 1) = 10 := by rcases ht with rfl | rfl | rfl; exact l_28 h; exact l_54 h; exact l_42 h
theorem lT2 (h : Geo G SL p q) (ht : Tw t) : gL G (t + 2) = 10 := by rcases ht with rfl | rfl | rfl; exact l_29 h; exact l_55 h; exact l_43 h
theorem lT3 (h : Geo G SL p q) (ht : Tw t) : gL G (t + 3) = 10 := by rcases ht with rfl | rfl | rfl; exact l_30 h; exact l_56 h; exact l_44 h
theorem lT4 (h : Geo G SL p q) (ht : Tw t) : gL G (t + 4) = 10 := by rcases ht with rfl | rfl | rfl; exact l_31 h; exact l_57 h; exact l_45 h
theorem lT5 (h : Geo G SL p q) (ht : Tw t) : gL G (t + 5) = 10 := by rcases ht with rfl | rfl | rfl; exact l_32 h; exact l_58 h; exact l_46 h
theorem lT6 (h : Geo G SL p q) (ht : Tw t) : gL G (t + 6) = 10 := by rcases ht with rfl | rfl | rfl; exact l_33 h; exact l_59 h; exact l_47 h
theorem lT7 (h : Geo G SL p q) (ht : Tw t) : gL G (t + 7) = 10 := by rcases ht with rfl | rfl | rfl; exact l_34 h; exact l_60 h; exact l_48 h
theorem rT0 (h : Geo G SL p q) (ht : Tw t) : gR G t 0 = 12 + 1 := by rcases ht with rfl | rfl | rfl; exact r_27_0 h; exact r_53_0 h; exact r_41_0 h
theorem rT4 (h : Geo G SL p q) (ht : Tw t) : gR G t 4 = (t + 1) + 1 := by rcases ht with rfl | rfl | rfl; exact r_27_4 h; exact r_53_4 h; exact r_41_4 h
theorem rT5 (h : Geo G SL p q) (ht : Tw t) : gR G t 5 = (t + 2) + 1 := by rcases ht with rfl | rfl | rfl; exact r_27_5 h; exact r_53_5 h; exact r_41_5 h
theorem rT6 (h : Geo G SL p q) (ht : Tw t) : gR G t 6 = (t + 3) + 1 := by rcases ht with rfl | rfl | rfl; exact r_27_6 h; exact r_53_6 h; exact r_41_6 h
theorem rT7 (h : Geo G SL p q) (ht : Tw t) : gR G t 7 = (t + 4) + 1 := by rcases ht with rfl | rfl | rfl; exact r_27_7 h; exact r_53_7 h; exact r_41_7 h
theorem rT8 (h : Geo G SL p q) (ht : Tw t) : gR G t 8 = (t + 5) + 1 := by rcases ht with rfl | rfl | rfl; exact r_27_8 h; exact r_53_8 h; exact r_41_8 h
theorem rT9 (h : Geo G SL p q) (ht : Tw t) : gR G t 9 = (t + 6) + 1 := by rcases ht with rfl | rfl | rfl; exact r_27_9 h; exact r_53_9 h; exact r_41_9 h
theorem rT10 (h : Geo G SL p q) (ht : Tw t) : gR G t 10 = (t + 7) + 1 := by rcases ht with rfl | rfl | rfl; exact r_27_10 h; exact r_53_10 h; exact r_41_10 h
end WFacts
theorem ow_1 : mOw 1 = 0 := by decide +kernel
theorem mx_1 : mMx 1 = 2 := by decide +kernel
theorem rt_1 : mRt 1 = none := by decide +kernel
theorem hd_1 : hdl 1 = [] := rfl
theorem ow_2 : mOw 2 = 0 := by decide +kernel
theorem mx_2 : mMx 2 = 6 := by decide +kernel
theorem rt_2 : mRt 2 = none := by decide +kernel
theorem hd_2 : hdl 2 = [] := rfl
theorem ow_3 : mOw 3 = 0 := by decide +kernel
theorem mx_3 : mMx 3 = 2 := by decide +kernel
theorem rt_3 : mRt 3 = none := by decide +kernel
theorem hd_3 : hdl 3 = [] := rfl
theorem ow_4 : mOw 4 = 0 := by decide +kernel
theorem mx_4 : mMx 4 = 5 := by decide +kernel
theorem rt_4 : mRt 4 = (some .boolean) := by decide +kernel
theorem hd_4 : hdl 4 = [] := rfl
theorem ow_5 : mOw 5 = 0 := by decide +kernel
theorem mx_5 : mMx 5 = 4 := by decide +kernel
theorem rt_5 : mRt 5 = none := by decide +kernel
theorem hd_5 : hdl 5 = [] := rfl
theorem ow_6 : mOw 6 = 0 := by decide +kernel
theorem mx_6 : mMx 6 = 3 := by decide +kernel
theorem rt_6 : mRt 6 = none := by decide +kernel
theorem hd_6 : hdl 6 = [] := rfl
theorem ow_8 : mOw 8 = 1 := by decide +kernel
theorem mx_8 : mMx 8 = 1 := by decide +kernel
theorem rt_8 : mRt 8 = (some .boolean) := by decide +kernel
theorem hd_8 : hdl 8 = [] := rfl
theorem ow_9 : mOw 9 = 1 := by decide +kernel
theorem mx_9 : mMx 9 = 5 := by decide +kernel
theorem rt_9 : mRt 9 = (some .int) := by decide +kernel
theorem hd_9 : hdl 9 = [] := rfl
theorem ow_10 : mOw 10 = 1 := by decide +kernel
theorem mx_10 : mMx 10 = 4 := by decide +kernel
theorem rt_10 : mRt 10 = (some .int) := by decide +kernel
theorem hd_10 : hdl 10 = [] := rfl
theorem ow_11 : mOw 11 = 1 := by decide +kernel
theorem mx_11 : mMx 11 = 5 := by decide +kernel
theorem rt_11 : mRt 11 = (some .int) := by decide +kernel
theorem hd_11 : hdl 11 = [] := rfl
theorem ow_12 : mOw 12 = 1 := by decide +kernel
theorem mx_12 : mMx 12 = 5 := by decide +kernel
theorem rt_12 : mRt 12 = (some .int) := by decide +kernel
theorem hd_12 : hdl 12 = [] := rfl
theorem ow_13 : mOw 13 = 1 := by decide +kernel
theorem mx_13 : mMx 13 = 3 := by decide +kernel
theorem rt_13 : mRt 13 = (some .int) := by decide +kernel
theorem hd_13 : hdl 13 = [] := rfl
theorem ow_14 : mOw 14 = 1 := by decide +kernel
theorem mx_14 : mMx 14 = 3 := by decide +kernel
theorem rt_14 : mRt 14 = (some .boolean) := by decide +kernel
theorem hd_14 : hdl 14 = [] := rfl
theorem ow_15 : mOw 15 = 1 := by decide +kernel
theorem mx_15 : mMx 15 = 4 := by decide +kernel
theorem rt_15 : mRt 15 = (some .int) := by decide +kernel
theorem hd_15 : hdl 15 = [] := rfl
theorem ow_16 : mOw 16 = 1 := by decide +kernel
theorem mx_16 : mMx 16 = 7 := by decide +kernel
theorem rt_16 : mRt 16 = (some .boolean) := by decide +kernel
theorem hd_16 : hdl 16 = [] := rfl
theorem ow_18 : mOw 18 = 2 := by decide +kernel
theorem mx_18 : mMx 18 = 1 := by decide +kernel
theorem rt_18 : mRt 18 = none := by decide +kernel
theorem hd_18 : hdl 18 = [] := rfl
theorem ow_19 : mOw 19 = 2 := by decide +kernel
theorem mx_19 : mMx 19 = 3 := by decide +kernel
theorem rt_19 : mRt 19 = (some .long) := by decide +kernel
theorem hd_19 : hdl 19 = [] := rfl
theorem ow_20 : mOw 20 = 2 := by decide +kernel
theorem mx_20 : mMx 20 = 3 := by decide +kernel
theorem rt_20 : mRt 20 = (some .int) := by decide +kernel
theorem hd_20 : hdl 20 = [] := rfl
theorem ow_21 : mOw 21 = 2 := by decide +kernel
theorem mx_21 : mMx 21 = 6 := by decide +kernel
theorem rt_21 : mRt 21 = none := by decide +kernel
theorem hd_21 : hdl 21 = [] := rfl
theorem ow_22 : mOw 22 = 2 := by decide +kernel
theorem mx_22 : mMx 22 = 5 := by decide +kernel
theorem rt_22 : mRt 22 = none := by decide +kernel
theorem hd_22 : hdl 22 = [] := rfl
theorem ow_23 : mOw 23 = 2 := by decide +kernel
theorem mx_23 : mMx 23 = 6 := by decide +kernel
theorem rt_23 : mRt 23 = (some .int) := by decide +kernel
theorem hd_23 : hdl 23 = [] := rfl
theorem ow_24 : mOw 24 = 2 := by decide +kernel
theorem mx_24 : mMx 24 = 5 := by decide +kernel
theorem rt_24 : mRt 24 = (some .int) := by decide +kernel
theorem hd_24 : hdl 24 = [] := rfl
theorem ow_25 : mOw 25 = 2 := by decide +kernel
theorem mx_25 : mMx 25 = 7 := by decide +kernel
theorem rt_25 : mRt 25 = (some .int) := by decide +kernel
theorem hd_25 : hdl 25 = [] := rfl
theorem ow_26 : mOw 26 = 2 := by decide +kernel
theorem mx_26 : mMx 26 = 4 := by decide +kernel
theorem rt_26 : mRt 26 = (some .int) := by decide +kernel
theorem hd_26 : hdl 26 = [] := rfl
theorem ow_27 : mOw 27 = 2 := by decide +kernel
theorem mx_27 : mMx 27 = 5 := by decide +kernel
theorem rt_27 : mRt 27 = (some .int) := by decide +kernel
theorem hd_27 : hdl 27 = [] := rfl
theorem ow_29 : mOw 29 = 3 := by decide +kernel
theorem mx_29 : mMx 29 = 3 := by decide +kernel
theorem rt_29 : mRt 29 = (some .int) := by decide +kernel
theorem hd_29 : hdl 29 = [] := rfl
theorem ow_30 : mOw 30 = 3 := by decide +kernel
theorem mx_30 : mMx 30 = 2 := by decide +kernel
theorem rt_30 : mRt 30 = (some .boolean) := by decide +kernel
theorem hd_30 : hdl 30 = [] := rfl
theorem ow_31 : mOw 31 = 3 := by decide +kernel
theorem mx_31 : mMx 31 = 8 := by decide +kernel
theorem rt_31 : mRt 31 = (some .boolean) := by decide +kernel
theorem hd_31 : hdl 31 = [] := rfl
theorem ow_32 : mOw 32 = 3 := by decide +kernel
theorem mx_32 : mMx 32 = 1 := by decide +kernel
theorem rt_32 : mRt 32 = (some .boolean) := by decide +kernel
theorem hd_32 : hdl 32 = [] := rfl
theorem ow_33 : mOw 33 = 3 := by decide +kernel
theorem mx_33 : mMx 33 = 1 := by decide +kernel
theorem rt_33 : mRt 33 = (some .boolean) := by decide +kernel
theorem hd_33 : hdl 33 = [] := rfl
theorem ow_34 : mOw 34 = 3 := by decide +kernel
theorem mx_34 : mMx 34 = 1 := by decide +kernel
theorem rt_34 : mRt 34 = (some .boolean) := by decide +kernel
theorem hd_34 : hdl 34 = [] := rfl
theorem ow_35 : mOw 35 = 3 := by decide +kernel
theorem mx_35 : mMx 35 = 1 := by decide +kernel
theorem rt_35 : mRt 35 = (some .boolean) := by decide +kernel
theorem hd_35 : hdl 35 = [] := rfl
theorem ow_36 : mOw 36 = 3 := by decide +kernel
theorem mx_36 : mMx 36 = 3 := by decide +kernel
theorem rt_36 : mRt 36 = (some .boolean) := by decide +kernel
theorem hd_36 : hdl 36 = [] := rfl
theorem ow_37 : mOw 37 = 3 := by decide +kernel
theorem mx_37 : mMx 37 = 3 := by decide +kernel
theorem rt_37 : mRt 37 = (some .boolean) := by decide +kernel
theorem hd_37 : hdl 37 = [] := rfl
theorem ow_38 : mOw 38 = 3 := by decide +kernel
theorem mx_38 : mMx 38 = 4 := by decide +kernel
theorem rt_38 : mRt 38 = (some .boolean) := by decide +kernel
theorem hd_38 : hdl 38 = [] := rfl
theorem ow_39 : mOw 39 = 3 := by decide +kernel
theorem mx_39 : mMx 39 = 3 := by decide +kernel
theorem rt_39 : mRt 39 = (some .boolean) := by decide +kernel
theorem hd_39 : hdl 39 = [] := rfl
theorem ow_40 : mOw 40 = 3 := by decide +kernel
theorem mx_40 : mMx 40 = 4 := by decide +kernel
theorem rt_40 : mRt 40 = (some .boolean) := by decide +kernel
theorem hd_40 : hdl 40 = [] := rfl
theorem ow_41 : mOw 41 = 3 := by decide +kernel
theorem mx_41 : mMx 41 = 4 := by decide +kernel
theorem rt_41 : mRt 41 = (some .boolean) := by decide +kernel
theorem hd_41 : hdl 41 = [] := rfl
theorem ow_42 : mOw 42 = 3 := by decide +kernel
theorem mx_42 : mMx 42 = 3 := by decide +kernel
theorem rt_42 : mRt 42 = (some .boolean) := by decide +kernel
theorem hd_42 : hdl 42 = [] := rfl
theorem ow_43 : mOw 43 = 3 := by decide +kernel
theorem mx_43 : mMx 43 = 4 := by decide +kernel
theorem rt_43 : mRt 43 = (some .int) := by decide +kernel
theorem hd_43 : hdl 43 = [] := rfl
theorem ow_44 : mOw 44 = 3 := by decide +kernel
theorem mx_44 : mMx 44 = 1 := by decide +kernel
theorem rt_44 : mRt 44 = (some .int) := by decide +kernel
theorem hd_44 : hdl 44 = [] := rfl
theorem ow_45 : mOw 45 = 3 := by decide +kernel
theorem mx_45 : mMx 45 = 1 := by decide +kernel
theorem rt_45 : mRt 45 = (some .int) := by decide +kernel
theorem hd_45 : hdl 45 = [] := rfl
theorem ow_46 : mOw 46 = 3 := by decide +kernel
theorem mx_46 : mMx 46 = 3 := by decide +kernel
theorem rt_46 : mRt 46 = (some .boolean) := by decide +kernel
theorem hd_46 : hdl 46 = [] := rfl
theorem ow_47 : mOw 47 = 3 := by decide +kernel
theorem mx_47 : mMx 47 = 2 := by decide +kernel
theorem rt_47 : mRt 47 = (some .boolean) := by decide +kernel
theorem hd_47 : hdl 47 = [] := rfl
theorem ow_48 : mOw 48 = 3 := by decide +kernel
theorem mx_48 : mMx 48 = 2 := by decide +kernel
theorem rt_48 : mRt 48 = (some .boolean) := by decide +kernel
theorem hd_48 : hdl 48 = [] := rfl
theorem ow_49 : mOw 49 = 3 := by decide +kernel
theorem mx_49 : mMx 49 = 1 := by decide +kernel
theorem rt_49 : mRt 49 = none := by decide +kernel
theorem hd_49 : hdl 49 = [] := rfl
theorem ow_50 : mOw 50 = 3 := by decide +kernel
theorem mx_50 : mMx 50 = 1 := by decide +kernel
theorem rt_50 : mRt 50 = (some .boolean) := by decide +kernel
theorem hd_50 : hdl 50 = [] := rfl
theorem ow_51 : mOw 51 = 3 := by decide +kernel
theorem mx_51 : mMx 51 = 1 := by decide +kernel
theorem rt_51 : mRt 51 = (some .boolean) := by decide +kernel
theorem hd_51 : hdl 51 = [] := rfl
theorem ow_53 : mOw 53 = 4 := by decide +kernel
theorem mx_53 : mMx 53 = 2 := by decide +kernel
theorem rt_53 : mRt 53 = none := by decide +kernel
theorem hd_53 : hdl 53 = [] := rfl
theorem ow_54 : mOw 54 = 4 := by decide +kernel
theorem mx_54 : mMx 54 = 2 := by decide +kernel
theorem rt_54 : mRt 54 = none := by decide +kernel
theorem hd_54 : hdl 54 = [] := rfl
theorem ow_55 : mOw 55 = 4 := by decide +kernel
theorem mx_55 : mMx 55 = 4 := by decide +kernel
theorem rt_55 : mRt 55 = (some .int) := by decide +kernel
theorem hd_55 : hdl 55 = [] := rfl
theorem ow_56 : mOw 56 = 4 := by decide +kernel
theorem mx_56 : mMx 56 = 2 := by decide +kernel
theorem rt_56 : mRt 56 = none := by decide +kernel
theorem hd_56 : hdl 56 = [] := rfl
theorem ow_57 : mOw 57 = 4 := by decide +kernel
theorem mx_57 : mMx 57 = 1 := by decide +kernel
theorem rt_57 : mRt 57 = (some .int) := by decide +kernel
theorem hd_57 : hdl 57 = [] := rfl
theorem ow_58 : mOw 58 = 4 := by decide +kernel
theorem mx_58 : mMx 58 = 2 := by decide +kernel
theorem rt_58 : mRt 58 = (some .int) := by decide +kernel
theorem hd_58 : hdl 58 = [] := rfl
theorem ow_59 : mOw 59 = 4 := by decide +kernel
theorem mx_59 : mMx 59 = 3 := by decide +kernel
theorem rt_59 : mRt 59 = (some .int) := by decide +kernel
theorem hd_59 : hdl 59 = [] := rfl
theorem ow_61 : mOw 61 = 5 := by decide +kernel
theorem mx_61 : mMx 61 = 1 := by decide +kernel
theorem rt_61 : mRt 61 = none := by decide +kernel
theorem hd_61 : hdl 61 = [] := rfl
theorem ow_62 : mOw 62 = 5 := by decide +kernel
theorem mx_62 : mMx 62 = 2 := by decide +kernel
theorem rt_62 : mRt 62 = none := by decide +kernel
theorem hd_62 : hdl 62 = [] := rfl
theorem ow_63 : mOw 63 = 5 := by decide +kernel
theorem mx_63 : mMx 63 = 2 := by decide +kernel
theorem rt_63 : mRt 63 = (some .int) := by decide +kernel
theorem hd_63 : hdl 63 = [] := rfl
theorem ow_64 : mOw 64 = 5 := by decide +kernel
theorem mx_64 : mMx 64 = 3 := by decide +kernel
theorem rt_64 : mRt 64 = (some .int) := by decide +kernel
theorem hd_64 : hdl 64 = [] := rfl
theorem ow_65 : mOw 65 = 5 := by decide +kernel
theorem mx_65 : mMx 65 = 3 := by decide +kernel
theorem rt_65 : mRt 65 = (some .int) := by decide +kernel
theorem hd_65 : hdl 65 = [] := rfl
theorem ow_66 : mOw 66 = 5 := by decide +kernel
theorem mx_66 : mMx 66 = 3 := by decide +kernel
theorem rt_66 : mRt 66 = (some .boolean) := by decide +kernel
theorem hd_66 : hdl 66 = [] := rfl
theorem ow_67 : mOw 67 = 5 := by decide +kernel
theorem mx_67 : mMx 67 = 4 := by decide +kernel
theorem rt_67 : mRt 67 = (some .int) := by decide +kernel
theorem hd_67 : hdl 67 = [] := rfl
theorem ow_68 : mOw 68 = 5 := by decide +kernel
theorem mx_68 : mMx 68 = 4 := by decide +kernel
theorem rt_68 : mRt 68 = (some .int) := by decide +kernel
theorem hd_68 : hdl 68 = [] := rfl
theorem ow_69 : mOw 69 = 5 := by decide +kernel
theorem mx_69 : mMx 69 = 2 := by decide +kernel
theorem rt_69 : mRt 69 = (some .int) := by decide +kernel
theorem hd_69 : hdl 69 = [] := rfl
theorem ow_70 : mOw 70 = 5 := by decide +kernel
theorem mx_70 : mMx 70 = 2 := by decide +kernel
theorem rt_70 : mRt 70 = (some .int) := by decide +kernel
theorem hd_70 : hdl 70 = [] := rfl
theorem ow_71 : mOw 71 = 5 := by decide +kernel
theorem mx_71 : mMx 71 = 1 := by decide +kernel
theorem rt_71 : mRt 71 = (some .int) := by decide +kernel
theorem hd_71 : hdl 71 = [] := rfl
theorem ow_72 : mOw 72 = 5 := by decide +kernel
theorem mx_72 : mMx 72 = 4 := by decide +kernel
theorem rt_72 : mRt 72 = (some .int) := by decide +kernel
theorem hd_72 : hdl 72 = [] := rfl
theorem ow_73 : mOw 73 = 5 := by decide +kernel
theorem mx_73 : mMx 73 = 5 := by decide +kernel
theorem rt_73 : mRt 73 = none := by decide +kernel
theorem hd_73 : hdl 73 = [] := rfl
theorem ow_75 : mOw 75 = 6 := by decide +kernel
theorem mx_75 : mMx 75 = 2 := by decide +kernel
theorem rt_75 : mRt 75 = none := by decide +kernel
theorem hd_75 : hdl 75 = [] := rfl
theorem ow_76 : mOw 76 = 6 := by decide +kernel
theorem mx_76 : mMx 76 = 2 := by decide +kernel
theorem rt_76 : mRt 76 = none := by decide +kernel
theorem hd_76 : hdl 76 = [] := rfl
theorem ow_77 : mOw 77 = 6 := by decide +kernel
theorem mx_77 : mMx 77 = 3 := by decide +kernel
theorem rt_77 : mRt 77 = (some .int) := by decide +kernel
theorem hd_77 : hdl 77 = [] := rfl
theorem ow_78 : mOw 78 = 6 := by decide +kernel
theorem mx_78 : mMx 78 = 3 := by decide +kernel
theorem rt_78 : mRt 78 = (some .int) := by decide +kernel
theorem hd_78 : hdl 78 = [] := rfl
theorem ow_79 : mOw 79 = 6 := by decide +kernel
theorem mx_79 : mMx 79 = 4 := by decide +kernel
theorem rt_79 : mRt 79 = none := by decide +kernel
theorem hd_79 : hdl 79 = [] := rfl
theorem ow_80 : mOw 80 = 6 := by decide +kernel
theorem mx_80 : mMx 80 = 3 := by decide +kernel
theorem rt_80 : mRt 80 = none := by decide +kernel
theorem hd_80 : hdl 80 = [] := rfl
theorem ow_81 : mOw 81 = 6 := by decide +kernel
theorem mx_81 : mMx 81 = 4 := by decide +kernel
theorem rt_81 : mRt 81 = none := by decide +kernel
theorem hd_81 : hdl 81 = [] := rfl
theorem ow_82 : mOw 82 = 6 := by decide +kernel
theorem mx_82 : mMx 82 = 4 := by decide +kernel
theorem rt_82 : mRt 82 = (some .int) := by decide +kernel
theorem hd_82 : hdl 82 = [] := rfl
theorem ow_83 : mOw 83 = 6 := by decide +kernel
theorem mx_83 : mMx 83 = 2 := by decide +kernel
theorem rt_83 : mRt 83 = (some .int) := by decide +kernel
theorem hd_83 : hdl 83 = [] := rfl
theorem ow_84 : mOw 84 = 6 := by decide +kernel
theorem mx_84 : mMx 84 = 4 := by decide +kernel
theorem rt_84 : mRt 84 = none := by decide +kernel
theorem hd_84 : hdl 84 = [] := rfl
theorem ow_85 : mOw 85 = 6 := by decide +kernel
theorem mx_85 : mMx 85 = 2 := by decide +kernel
theorem rt_85 : mRt 85 = (some .int) := by decide +kernel
theorem hd_85 : hdl 85 = [] := rfl
theorem ow_86 : mOw 86 = 6 := by decide +kernel
theorem mx_86 : mMx 86 = 2 := by decide +kernel
theorem rt_86 : mRt 86 = (some .boolean) := by decide +kernel
theorem hd_86 : hdl 86 = [] := rfl
theorem ow_87 : mOw 87 = 6 := by decide +kernel
theorem mx_87 : mMx 87 = 2 := by decide +kernel
theorem rt_87 : mRt 87 = (some .int) := by decide +kernel
theorem hd_87 : hdl 87 = [] := rfl
theorem ow_88 : mOw 88 = 6 := by decide +kernel
theorem mx_88 : mMx 88 = 1 := by decide +kernel
theorem rt_88 : mRt 88 = (some .boolean) := by decide +kernel
theorem hd_88 : hdl 88 = [] := rfl
theorem ow_89 : mOw 89 = 6 := by decide +kernel
theorem mx_89 : mMx 89 = 3 := by decide +kernel
theorem rt_89 : mRt 89 = (some .int) := by decide +kernel
theorem hd_89 : hdl 89 = [] := rfl
theorem ow_90 : mOw 90 = 6 := by decide +kernel
theorem mx_90 : mMx 90 = 5 := by decide +kernel
theorem rt_90 : mRt 90 = (some .int) := by decide +kernel
theorem hd_90 : hdl 90 = [] := rfl
theorem ow_91 : mOw 91 = 6 := by decide +kernel
theorem mx_91 : mMx 91 = 5 := by decide +kernel
theorem rt_91 : mRt 91 = (some .boolean) := by decide +kernel
theorem hd_91 : hdl 91 = [] := rfl
theorem ow_92 : mOw 92 = 6 := by decide +kernel
theorem mx_92 : mMx 92 = 5 := by decide +kernel
theorem rt_92 : mRt 92 = (some .int) := by decide +kernel
theorem hd_92 : hdl 92 = [] := rfl
theorem ow_93 : mOw 93 = 6 := by decide +kernel
theorem mx_93 : mMx 93 = 4 := by decide +kernel
theorem rt_93 : mRt 93 = (some .int) := by decide +kernel
theorem hd_93 : hdl 93 = [] := rfl
theorem ow_94 : mOw 94 = 6 := by decide +kernel
theorem mx_94 : mMx 94 = 6 := by decide +kernel
theorem rt_94 : mRt 94 = (some .int) := by decide +kernel
theorem hd_94 : hdl 94 = [] := rfl
theorem ow_95 : mOw 95 = 6 := by decide +kernel
theorem mx_95 : mMx 95 = 3 := by decide +kernel
theorem rt_95 : mRt 95 = (some .int) := by decide +kernel
theorem hd_95 : hdl 95 = [] := rfl
theorem ow_96 : mOw 96 = 6 := by decide +kernel
theorem mx_96 : mMx 96 = 3 := by decide +kernel
theorem rt_96 : mRt 96 = (some .boolean) := by decide +kernel
theorem hd_96 : hdl 96 = [] := rfl
theorem ow_98 : mOw 98 = 7 := by decide +kernel
theorem mx_98 : mMx 98 = 1 := by decide +kernel
theorem rt_98 : mRt 98 = none := by decide +kernel
theorem hd_98 : hdl 98 = [] := rfl
theorem ow_99 : mOw 99 = 7 := by decide +kernel
theorem mx_99 : mMx 99 = 2 := by decide +kernel
theorem rt_99 : mRt 99 = none := by decide +kernel
theorem hd_99 : hdl 99 = [] := rfl
theorem ow_100 : mOw 100 = 7 := by decide +kernel
theorem mx_100 : mMx 100 = 1 := by decide +kernel
theorem rt_100 : mRt 100 = (some .int) := by decide +kernel
theorem hd_100 : hdl 100 = [] := rfl
theorem ow_101 : mOw 101 = 7 := by decide +kernel
theorem mx_101 : mMx 101 = 2 := by decide +kernel
theorem rt_101 : mRt 101 = (some .int) := by decide +kernel
theorem hd_101 : hdl 101 = [] := rfl
theorem ow_102 : mOw 102 = 7 := by decide +kernel
theorem mx_102 : mMx 102 = 2 := by decide +kernel
theorem rt_102 : mRt 102 = (some .int) := by decide +kernel
theorem hd_102 : hdl 102 = [] := rfl
theorem ow_103 : mOw 103 = 7 := by decide +kernel
theorem mx_103 : mMx 103 = 2 := by decide +kernel
theorem rt_103 : mRt 103 = (some .boolean) := by decide +kernel
theorem hd_103 : hdl 103 = [] := rfl
theorem ow_105 : mOw 105 = 8 := by decide +kernel
theorem mx_105 : mMx 105 = 2 := by decide +kernel
theorem rt_105 : mRt 105 = (some .int) := by decide +kernel
theorem hd_105 : hdl 105 = [] := rfl
theorem ow_106 : mOw 106 = 8 := by decide +kernel
theorem mx_106 : mMx 106 = 5 := by decide +kernel
theorem rt_106 : mRt 106 = (some .int) := by decide +kernel
theorem hd_106 : hdl 106 = [] := rfl
theorem ow_107 : mOw 107 = 8 := by decide +kernel
theorem mx_107 : mMx 107 = 6 := by decide +kernel
theorem rt_107 : mRt 107 = (some .int) := by decide +kernel
theorem hd_107 : hdl 107 = [] := rfl
theorem ow_108 : mOw 108 = 8 := by decide +kernel
theorem mx_108 : mMx 108 = 4 := by decide +kernel
theorem rt_108 : mRt 108 = (some .boolean) := by decide +kernel
theorem hd_108 : hdl 108 = [] := rfl
theorem ow_109 : mOw 109 = 8 := by decide +kernel
theorem mx_109 : mMx 109 = 6 := by decide +kernel
theorem rt_109 : mRt 109 = (some .int) := by decide +kernel
theorem hd_109 : hdl 109 = [] := rfl
theorem ow_110 : mOw 110 = 8 := by decide +kernel
theorem mx_110 : mMx 110 = 3 := by decide +kernel
theorem rt_110 : mRt 110 = (some .int) := by decide +kernel
theorem hd_110 : hdl 110 = [] := rfl
theorem ow_111 : mOw 111 = 8 := by decide +kernel
theorem mx_111 : mMx 111 = 2 := by decide +kernel
theorem rt_111 : mRt 111 = (some .int) := by decide +kernel
theorem hd_111 : hdl 111 = [] := rfl
theorem ow_112 : mOw 112 = 8 := by decide +kernel
theorem mx_112 : mMx 112 = 2 := by decide +kernel
theorem rt_112 : mRt 112 = (some .int) := by decide +kernel
theorem hd_112 : hdl 112 = [] := rfl
theorem ow_113 : mOw 113 = 8 := by decide +kernel
theorem mx_113 : mMx 113 = 2 := by decide +kernel
theorem rt_113 : mRt 113 = (some .int) := by decide +kernel
theorem hd_113 : hdl 113 = [] := rfl
theorem ow_114 : mOw 114 = 8 := by decide +kernel
theorem mx_114 : mMx 114 = 2 := by decide +kernel
theorem rt_114 : mRt 114 = (some .int) := by decide +kernel
theorem hd_114 : hdl 114 = [] := rfl
theorem ow_115 : mOw 115 = 8 := by decide +kernel
theorem mx_115 : mMx 115 = 4 := by decide +kernel
theorem rt_115 : mRt 115 = (some .int) := by decide +kernel
theorem hd_115 : hdl 115 = [] := rfl
theorem ow_116 : mOw 116 = 8 := by decide +kernel
theorem mx_116 : mMx 116 = 3 := by decide +kernel
theorem rt_116 : mRt 116 = (some .int) := by decide +kernel
theorem hd_116 : hdl 116 = [] := rfl
theorem ow_117 : mOw 117 = 8 := by decide +kernel
theorem mx_117 : mMx 117 = 6 := by decide +kernel
theorem rt_117 : mRt 117 = none := by decide +kernel
theorem hd_117 : hdl 117 = [] := rfl
theorem ow_118 : mOw 118 = 8 := by decide +kernel
theorem mx_118 : mMx 118 = 3 := by decide +kernel
theorem rt_118 : mRt 118 = none := by decide +kernel
theorem hd_118 : hdl 118 = [] := rfl
theorem ow_119 : mOw 119 = 8 := by decide +kernel
theorem mx_119 : mMx 119 = 3 := by decide +kernel
theorem rt_119 : mRt 119 = none := by decide +kernel
theorem hd_119 : hdl 119 = [] := rfl
theorem ow_120 : mOw 120 = 8 := by decide +kernel
theorem mx_120 : mMx 120 = 6 := by decide +kernel
theorem rt_120 : mRt 120 = (some .boolean) := by decide +kernel
theorem hd_120 : hdl 120 = [] := rfl
theorem ow_121 : mOw 121 = 8 := by decide +kernel
theorem mx_121 : mMx 121 = 4 := by decide +kernel
theorem rt_121 : mRt 121 = (some .int) := by decide +kernel
theorem hd_121 : hdl 121 = [] := rfl
theorem ow_122 : mOw 122 = 8 := by decide +kernel
theorem mx_122 : mMx 122 = 4 := by decide +kernel
theorem rt_122 : mRt 122 = none := by decide +kernel
theorem hd_122 : hdl 122 = [] := rfl
theorem ow_123 : mOw 123 = 8 := by decide +kernel
theorem mx_123 : mMx 123 = 3 := by decide +kernel
theorem rt_123 : mRt 123 = none := by decide +kernel
theorem hd_123 : hdl 123 = [] := rfl
theorem ow_124 : mOw 124 = 8 := by decide +kernel
theorem mx_124 : mMx 124 = 2 := by decide +kernel
theorem rt_124 : mRt 124 = (some .int) := by decide +kernel
theorem hd_124 : hdl 124 = [] := rfl
theorem ow_126 : mOw 126 = 9 := by decide +kernel
theorem mx_126 : mMx 126 = 6 := by decide +kernel
theorem rt_126 : mRt 126 = (some .int) := by decide +kernel
theorem hd_126 : hdl 126 = [] := rfl
theorem ow_127 : mOw 127 = 9 := by decide +kernel
theorem mx_127 : mMx 127 = 3 := by decide +kernel
theorem rt_127 : mRt 127 = (some .int) := by decide +kernel
theorem hd_127 : hdl 127 = [] := rfl
theorem ow_128 : mOw 128 = 9 := by decide +kernel
theorem mx_128 : mMx 128 = 1 := by decide +kernel
theorem rt_128 : mRt 128 = (some .int) := by decide +kernel
theorem hd_128 : hdl 128 = [] := rfl
theorem ow_129 : mOw 129 = 9 := by decide +kernel
theorem mx_129 : mMx 129 = 3 := by decide +kernel
theorem rt_129 : mRt 129 = (some .int) := by decide +kernel
theorem hd_129 : hdl 129 = [] := rfl
theorem ow_130 : mOw 130 = 9 := by decide +kernel
theorem mx_130 : mMx 130 = 4 := by decide +kernel
theorem rt_130 : mRt 130 = (some .int) := by decide +kernel
theorem hd_130 : hdl 130 = [] := rfl
theorem ow_131 : mOw 131 = 9 := by decide +kernel
theorem mx_131 : mMx 131 = 4 := by decide +kernel
theorem rt_131 : mRt 131 = (some .int) := by decide +kernel
theorem hd_131 : hdl 131 = [] := rfl
theorem ow_132 : mOw 132 = 9 := by decide +kernel
theorem mx_132 : mMx 132 = 1 := by decide +kernel
theorem rt_132 : mRt 132 = (some .int) := by decide +kernel
theorem hd_132 : hdl 132 = [] := rfl
theorem ow_133 : mOw 133 = 9 := by decide +kernel
theorem mx_133 : mMx 133 = 3 := by decide +kernel
theorem rt_133 : mRt 133 = (some .int) := by decide +kernel
theorem hd_133 : hdl 133 = [] := rfl
theorem ow_134 : mOw 134 = 9 := by decide +kernel
theorem mx_134 : mMx 134 = 2 := by decide +kernel
theorem rt_134 : mRt 134 = (some .int) := by decide +kernel
theorem hd_134 : hdl 134 = [] := rfl
theorem ow_135 : mOw 135 = 9 := by decide +kernel
theorem mx_135 : mMx 135 = 3 := by decide +kernel
theorem rt_135 : mRt 135 = (some .boolean) := by decide +kernel
theorem hd_135 : hdl 135 = [] := rfl
theorem ow_136 : mOw 136 = 9 := by decide +kernel
theorem mx_136 : mMx 136 = 3 := by decide +kernel
theorem rt_136 : mRt 136 = (some .int) := by decide +kernel
theorem hd_136 : hdl 136 = [] := rfl
theorem ow_137 : mOw 137 = 9 := by decide +kernel
theorem mx_137 : mMx 137 = 3 := by decide +kernel
theorem rt_137 : mRt 137 = (some .int) := by decide +kernel
theorem hd_137 : hdl 137 = [] := rfl
theorem ow_138 : mOw 138 = 9 := by decide +kernel
theorem mx_138 : mMx 138 = 1 := by decide +kernel
theorem rt_138 : mRt 138 = (some .int) := by decide +kernel
theorem hd_138 : hdl 138 = [] := rfl
theorem ow_139 : mOw 139 = 9 := by decide +kernel
theorem mx_139 : mMx 139 = 2 := by decide +kernel
theorem rt_139 : mRt 139 = (some .int) := by decide +kernel
theorem hd_139 : hdl 139 = [] := rfl
theorem ow_140 : mOw 140 = 9 := by decide +kernel
theorem mx_140 : mMx 140 = 1 := by decide +kernel
theorem rt_140 : mRt 140 = (some .int) := by decide +kernel
theorem hd_140 : hdl 140 = [] := rfl
theorem ow_141 : mOw 141 = 9 := by decide +kernel
theorem mx_141 : mMx 141 = 1 := by decide +kernel
theorem rt_141 : mRt 141 = (some .int) := by decide +kernel
theorem hd_141 : hdl 141 = [] := rfl
theorem ow_142 : mOw 142 = 9 := by decide +kernel
theorem mx_142 : mMx 142 = 2 := by decide +kernel
theorem rt_142 : mRt 142 = (some .boolean) := by decide +kernel
theorem hd_142 : hdl 142 = [] := rfl
theorem ow_143 : mOw 143 = 9 := by decide +kernel
theorem mx_143 : mMx 143 = 2 := by decide +kernel
theorem rt_143 : mRt 143 = (some .int) := by decide +kernel
theorem hd_143 : hdl 143 = [] := rfl
theorem ow_144 : mOw 144 = 9 := by decide +kernel
theorem mx_144 : mMx 144 = 2 := by decide +kernel
theorem rt_144 : mRt 144 = (some .int) := by decide +kernel
theorem hd_144 : hdl 144 = [] := rfl
theorem ow_145 : mOw 145 = 9 := by decide +kernel
theorem mx_145 : mMx 145 = 1 := by decide +kernel
theorem rt_145 : mRt 145 = (some .long) := by decide +kernel
theorem hd_145 : hdl 145 = [] := rfl
theorem ow_146 : mOw 146 = 9 := by decide +kernel
theorem mx_146 : mMx 146 = 1 := by decide +kernel
theorem rt_146 : mRt 146 = (some .int) := by decide +kernel
theorem hd_146 : hdl 146 = [] := rfl
theorem ow_147 : mOw 147 = 9 := by decide +kernel
theorem mx_147 : mMx 147 = 1 := by decide +kernel
theorem rt_147 : mRt 147 = (some .int) := by decide +kernel
theorem hd_147 : hdl 147 = [] := rfl
theorem ow_148 : mOw 148 = 9 := by decide +kernel
theorem mx_148 : mMx 148 = 1 := by decide +kernel
theorem rt_148 : mRt 148 = (some .int) := by decide +kernel
theorem hd_148 : hdl 148 = [] := rfl
theorem ow_149 : mOw 149 = 9 := by decide +kernel
theorem mx_149 : mMx 149 = 3 := by decide +kernel
theorem rt_149 : mRt 149 = (some .boolean) := by decide +kernel
theorem hd_149 : hdl 149 = [] := rfl
theorem ow_150 : mOw 150 = 9 := by decide +kernel
theorem mx_150 : mMx 150 = 3 := by decide +kernel
theorem rt_150 : mRt 150 = (some .int) := by decide +kernel
theorem hd_150 : hdl 150 = [] := rfl
theorem ow_151 : mOw 151 = 9 := by decide +kernel
theorem mx_151 : mMx 151 = 1 := by decide +kernel
theorem rt_151 : mRt 151 = (some .int) := by decide +kernel
theorem hd_151 : hdl 151 = [] := rfl
theorem ow_152 : mOw 152 = 9 := by decide +kernel
theorem mx_152 : mMx 152 = 2 := by decide +kernel
theorem rt_152 : mRt 152 = (some .int) := by decide +kernel
theorem hd_152 : hdl 152 = [] := rfl
theorem ow_153 : mOw 153 = 9 := by decide +kernel
theorem mx_153 : mMx 153 = 1 := by decide +kernel
theorem rt_153 : mRt 153 = (some .int) := by decide +kernel
theorem hd_153 : hdl 153 = [] := rfl
theorem ow_154 : mOw 154 = 9 := by decide +kernel
theorem mx_154 : mMx 154 = 3 := by decide +kernel
theorem rt_154 : mRt 154 = (some .long) := by decide +kernel
theorem hd_154 : hdl 154 = [] := rfl
theorem ow_155 : mOw 155 = 9 := by decide +kernel
theorem mx_155 : mMx 155 = 1 := by decide +kernel
theorem rt_155 : mRt 155 = (some .int) := by decide +kernel
theorem hd_155 : hdl 155 = [] := rfl
theorem ow_156 : mOw 156 = 9 := by decide +kernel
theorem mx_156 : mMx 156 = 2 := by decide +kernel
theorem rt_156 : mRt 156 = (some .int) := by decide +kernel
theorem hd_156 : hdl 156 = [] := rfl
theorem ow_157 : mOw 157 = 9 := by decide +kernel
theorem mx_157 : mMx 157 = 2 := by decide +kernel
theorem rt_157 : mRt 157 = (some .int) := by decide +kernel
theorem hd_157 : hdl 157 = [] := rfl
theorem ow_158 : mOw 158 = 9 := by decide +kernel
theorem mx_158 : mMx 158 = 1 := by decide +kernel
theorem rt_158 : mRt 158 = (some .int) := by decide +kernel
theorem hd_158 : hdl 158 = [] := rfl
theorem ow_159 : mOw 159 = 9 := by decide +kernel
theorem mx_159 : mMx 159 = 2 := by decide +kernel
theorem rt_159 : mRt 159 = (some .int) := by decide +kernel
theorem hd_159 : hdl 159 = [] := rfl
theorem ow_160 : mOw 160 = 9 := by decide +kernel
theorem mx_160 : mMx 160 = 1 := by decide +kernel
theorem rt_160 : mRt 160 = (some .int) := by decide +kernel
theorem hd_160 : hdl 160 = [] := rfl
theorem ow_161 : mOw 161 = 9 := by decide +kernel
theorem mx_161 : mMx 161 = 1 := by decide +kernel
theorem rt_161 : mRt 161 = (some .int) := by decide +kernel
theorem hd_161 : hdl 161 = [] := rfl
theorem ow_162 : mOw 162 = 9 := by decide +kernel
theorem mx_162 : mMx 162 = 3 := by decide +kernel
theorem rt_162 : mRt 162 = (some .int) := by decide +kernel
theorem hd_162 : hdl 162 = [] := rfl
theorem ow_163 : mOw 163 = 9 := by decide +kernel
theorem mx_163 : mMx 163 = 2 := by decide +kernel
theorem rt_163 : mRt 163 = (some .int) := by decide +kernel
theorem hd_163 : hdl 163 = [] := rfl
theorem ow_164 : mOw 164 = 9 := by decide +kernel
theorem mx_164 : mMx 164 = 1 := by decide +kernel
theorem rt_164 : mRt 164 = (some .int) := by decide +kernel
theorem hd_164 : hdl 164 = [] := rfl
theorem ow_165 : mOw 165 = 9 := by decide +kernel
theorem mx_165 : mMx 165 = 1 := by decide +kernel
theorem rt_165 : mRt 165 = none := by decide +kernel
theorem hd_165 : hdl 165 = [] := rfl
theorem ow_166 : mOw 166 = 9 := by decide +kernel
theorem mx_166 : mMx 166 = 2 := by decide +kernel
theorem rt_166 : mRt 166 = (some .int) := by decide +kernel
theorem hd_166 : hdl 166 = [] := rfl
theorem ow_167 : mOw 167 = 9 := by decide +kernel
theorem mx_167 : mMx 167 = 4 := by decide +kernel
theorem rt_167 : mRt 167 = (some .int) := by decide +kernel
theorem hd_167 : hdl 167 = [] := rfl
theorem ow_168 : mOw 168 = 9 := by decide +kernel
theorem mx_168 : mMx 168 = 1 := by decide +kernel
theorem rt_168 : mRt 168 = none := by decide +kernel
theorem hd_168 : hdl 168 = [] := rfl
theorem ow_169 : mOw 169 = 9 := by decide +kernel
theorem mx_169 : mMx 169 = 1 := by decide +kernel
theorem rt_169 : mRt 169 = (some .boolean) := by decide +kernel
theorem hd_169 : hdl 169 = [] := rfl
theorem ow_170 : mOw 170 = 9 := by decide +kernel
theorem mx_170 : mMx 170 = 3 := by decide +kernel
theorem rt_170 : mRt 170 = none := by decide +kernel
theorem hd_170 : hdl 170 = [] := rfl
theorem ow_171 : mOw 171 = 9 := by decide +kernel
theorem mx_171 : mMx 171 = 2 := by decide +kernel
theorem rt_171 : mRt 171 = none := by decide +kernel
theorem hd_171 : hdl 171 = [] := rfl
theorem ow_172 : mOw 172 = 9 := by decide +kernel
theorem mx_172 : mMx 172 = 2 := by decide +kernel
theorem rt_172 : mRt 172 = none := by decide +kernel
theorem hd_172 : hdl 172 = [] := rfl
theorem ow_173 : mOw 173 = 9 := by decide +kernel
theorem mx_173 : mMx 173 = 2 := by decide +kernel
theorem rt_173 : mRt 173 = none := by decide +kernel
theorem hd_173 : hdl 173 = [] := rfl
theorem ow_175 : mOw 175 = 10 := by decide +kernel
theorem mx_175 : mMx 175 = 1 := by decide +kernel
theorem rt_175 : mRt 175 = (some .int) := by decide +kernel
theorem hd_175 : hdl 175 = [] := rfl
theorem ow_176 : mOw 176 = 10 := by decide +kernel
theorem mx_176 : mMx 176 = 2 := by decide +kernel
theorem rt_176 : mRt 176 = (some .int) := by decide +kernel
theorem hd_176 : hdl 176 = [] := rfl
theorem ow_177 : mOw 177 = 10 := by decide +kernel
theorem mx_177 : mMx 177 = 2 := by decide +kernel
theorem rt_177 : mRt 177 = (some .boolean) := by decide +kernel
theorem hd_177 : hdl 177 = [] := rfl
theorem ow_178 : mOw 178 = 10 := by decide +kernel
theorem mx_178 : mMx 178 = 6 := by decide +kernel
theorem rt_178 : mRt 178 = (some .boolean) := by decide +kernel
theorem hd_178 : hdl 178 = [] := rfl
theorem ow_179 : mOw 179 = 10 := by decide +kernel
theorem mx_179 : mMx 179 = 2 := by decide +kernel
theorem rt_179 : mRt 179 = (some .boolean) := by decide +kernel
theorem hd_179 : hdl 179 = [] := rfl
theorem ow_180 : mOw 180 = 10 := by decide +kernel
theorem mx_180 : mMx 180 = 2 := by decide +kernel
theorem rt_180 : mRt 180 = (some .boolean) := by decide +kernel
theorem hd_180 : hdl 180 = [] := rfl
theorem ow_181 : mOw 181 = 10 := by decide +kernel
theorem mx_181 : mMx 181 = 2 := by decide +kernel
theorem rt_181 : mRt 181 = (some .boolean) := by decide +kernel
theorem hd_181 : hdl 181 = [] := rfl
theorem ow_182 : mOw 182 = 10 := by decide +kernel
theorem mx_182 : mMx 182 = 8 := by decide +kernel
theorem rt_182 : mRt 182 = (some .int) := by decide +kernel
theorem hd_182 : hdl 182 = [] := rfl
theorem ow_183 : mOw 183 = 10 := by decide +kernel
theorem mx_183 : mMx 183 = 2 := by decide +kernel
theorem rt_183 : mRt 183 = (some .int) := by decide +kernel
theorem hd_183 : hdl 183 = [] := rfl
theorem ow_184 : mOw 184 = 10 := by decide +kernel
theorem mx_184 : mMx 184 = 1 := by decide +kernel
theorem rt_184 : mRt 184 = (some .boolean) := by decide +kernel
theorem hd_184 : hdl 184 = [] := rfl
theorem ow_185 : mOw 185 = 10 := by decide +kernel
theorem mx_185 : mMx 185 = 1 := by decide +kernel
theorem rt_185 : mRt 185 = (some .boolean) := by decide +kernel
theorem hd_185 : hdl 185 = [] := rfl
theorem ow_186 : mOw 186 = 10 := by decide +kernel
theorem mx_186 : mMx 186 = 1 := by decide +kernel
theorem rt_186 : mRt 186 = (some .boolean) := by decide +kernel
theorem hd_186 : hdl 186 = [] := rfl
theorem ow_187 : mOw 187 = 10 := by decide +kernel
theorem mx_187 : mMx 187 = 2 := by decide +kernel
theorem rt_187 : mRt 187 = none := by decide +kernel
theorem hd_187 : hdl 187 = [] := rfl
theorem ow_188 : mOw 188 = 10 := by decide +kernel
theorem mx_188 : mMx 188 = 2 := by decide +kernel
theorem rt_188 : mRt 188 = none := by decide +kernel
theorem hd_188 : hdl 188 = [] := rfl
theorem ow_189 : mOw 189 = 10 := by decide +kernel
theorem mx_189 : mMx 189 = 4 := by decide +kernel
theorem rt_189 : mRt 189 = (some .boolean) := by decide +kernel
theorem hd_189 : hdl 189 = [] := rfl
theorem ow_190 : mOw 190 = 10 := by decide +kernel
theorem mx_190 : mMx 190 = 3 := by decide +kernel
theorem rt_190 : mRt 190 = (some .int) := by decide +kernel
theorem hd_190 : hdl 190 = [] := rfl
theorem ow_191 : mOw 191 = 10 := by decide +kernel
theorem mx_191 : mMx 191 = 2 := by decide +kernel
theorem rt_191 : mRt 191 = (some .boolean) := by decide +kernel
theorem hd_191 : hdl 191 = [] := rfl
theorem ow_192 : mOw 192 = 10 := by decide +kernel
theorem mx_192 : mMx 192 = 2 := by decide +kernel
theorem rt_192 : mRt 192 = none := by decide +kernel
theorem hd_192 : hdl 192 = [] := rfl
theorem ow_193 : mOw 193 = 10 := by decide +kernel
theorem mx_193 : mMx 193 = 4 := by decide +kernel
theorem rt_193 : mRt 193 = (some .int) := by decide +kernel
theorem hd_193 : hdl 193 = [] := rfl
theorem ow_194 : mOw 194 = 10 := by decide +kernel
theorem mx_194 : mMx 194 = 2 := by decide +kernel
theorem rt_194 : mRt 194 = none := by decide +kernel
theorem hd_194 : hdl 194 = [] := rfl
theorem ow_195 : mOw 195 = 10 := by decide +kernel
theorem mx_195 : mMx 195 = 3 := by decide +kernel
theorem rt_195 : mRt 195 = none := by decide +kernel
theorem hd_195 : hdl 195 = [] := rfl
theorem ow_196 : mOw 196 = 10 := by decide +kernel
theorem mx_196 : mMx 196 = 3 := by decide +kernel
theorem rt_196 : mRt 196 = none := by decide +kernel
theorem hd_196 : hdl 196 = [] := rfl
theorem ow_197 : mOw 197 = 10 := by decide +kernel
theorem mx_197 : mMx 197 = 3 := by decide +kernel
theorem rt_197 : mRt 197 = none := by decide +kernel
theorem hd_197 : hdl 197 = [] := rfl
theorem ow_198 : mOw 198 = 10 := by decide +kernel
theorem mx_198 : mMx 198 = 4 := by decide +kernel
theorem rt_198 : mRt 198 = none := by decide +kernel
theorem hd_198 : hdl 198 = [] := rfl
theorem ow_199 : mOw 199 = 10 := by decide +kernel
theorem mx_199 : mMx 199 = 2 := by decide +kernel
theorem rt_199 : mRt 199 = none := by decide +kernel
theorem hd_199 : hdl 199 = [] := rfl
theorem ow_200 : mOw 200 = 10 := by decide +kernel
theorem mx_200 : mMx 200 = 3 := by decide +kernel
theorem rt_200 : mRt 200 = none := by decide +kernel
theorem hd_200 : hdl 200 = [] := rfl
theorem ow_201 : mOw 201 = 10 := by decide +kernel
theorem mx_201 : mMx 201 = 5 := by decide +kernel
theorem rt_201 : mRt 201 = none := by decide +kernel
theorem hd_201 : hdl 201 = [] := rfl
theorem ow_202 : mOw 202 = 10 := by decide +kernel
theorem mx_202 : mMx 202 = 4 := by decide +kernel
theorem rt_202 : mRt 202 = (some .int) := by decide +kernel
theorem hd_202 : hdl 202 = [] := rfl
theorem ow_203 : mOw 203 = 10 := by decide +kernel
theorem mx_203 : mMx 203 = 3 := by decide +kernel
theorem rt_203 : mRt 203 = (some .int) := by decide +kernel
theorem hd_203 : hdl 203 = [] := rfl
theorem ow_204 : mOw 204 = 10 := by decide +kernel
theorem mx_204 : mMx 204 = 2 := by decide +kernel
theorem rt_204 : mRt 204 = none := by decide +kernel
theorem hd_204 : hdl 204 = [] := rfl
theorem ow_205 : mOw 205 = 10 := by decide +kernel
theorem mx_205 : mMx 205 = 2 := by decide +kernel
theorem rt_205 : mRt 205 = none := by decide +kernel
theorem hd_205 : hdl 205 = [] := rfl
theorem ow_206 : mOw 206 = 10 := by decide +kernel
theorem mx_206 : mMx 206 = 1 := by decide +kernel
theorem rt_206 : mRt 206 = (some .int) := by decide +kernel
theorem hd_206 : hdl 206 = [] := rfl
theorem ow_207 : mOw 207 = 10 := by decide +kernel
theorem mx_207 : mMx 207 = 4 := by decide +kernel
theorem rt_207 : mRt 207 = none := by decide +kernel
theorem hd_207 : hdl 207 = [] := rfl
theorem ow_208 : mOw 208 = 10 := by decide +kernel
theorem mx_208 : mMx 208 = 4 := by decide +kernel
theorem rt_208 : mRt 208 = none := by decide +kernel
theorem hd_208 : hdl 208 = [] := rfl
theorem ow_209 : mOw 209 = 10 := by decide +kernel
theorem mx_209 : mMx 209 = 3 := by decide +kernel
theorem rt_209 : mRt 209 = (some .int) := by decide +kernel
theorem hd_209 : hdl 209 = [] := rfl
theorem ow_210 : mOw 210 = 10 := by decide +kernel
theorem mx_210 : mMx 210 = 2 := by decide +kernel
theorem rt_210 : mRt 210 = (some .int) := by decide +kernel
theorem hd_210 : hdl 210 = [] := rfl
theorem ow_211 : mOw 211 = 10 := by decide +kernel
theorem mx_211 : mMx 211 = 4 := by decide +kernel
theorem rt_211 : mRt 211 = (some .int) := by decide +kernel
theorem hd_211 : hdl 211 = [] := rfl
theorem ow_212 : mOw 212 = 10 := by decide +kernel
theorem mx_212 : mMx 212 = 2 := by decide +kernel
theorem rt_212 : mRt 212 = (some .int) := by decide +kernel
theorem hd_212 : hdl 212 = [] := rfl
theorem ow_213 : mOw 213 = 10 := by decide +kernel
theorem mx_213 : mMx 213 = 4 := by decide +kernel
theorem rt_213 : mRt 213 = (some .int) := by decide +kernel
theorem hd_213 : hdl 213 = [] := rfl
theorem ow_214 : mOw 214 = 10 := by decide +kernel
theorem mx_214 : mMx 214 = 2 := by decide +kernel
theorem rt_214 : mRt 214 = (some .int) := by decide +kernel
theorem hd_214 : hdl 214 = [] := rfl
theorem ow_215 : mOw 215 = 10 := by decide +kernel
theorem mx_215 : mMx 215 = 4 := by decide +kernel
theorem rt_215 : mRt 215 = (some .int) := by decide +kernel
theorem hd_215 : hdl 215 = [] := rfl
theorem ow_216 : mOw 216 = 10 := by decide +kernel
theorem mx_216 : mMx 216 = 2 := by decide +kernel
theorem rt_216 : mRt 216 = (some .boolean) := by decide +kernel
theorem hd_216 : hdl 216 = [] := rfl
theorem ow_217 : mOw 217 = 10 := by decide +kernel
theorem mx_217 : mMx 217 = 2 := by decide +kernel
theorem rt_217 : mRt 217 = (some .int) := by decide +kernel
theorem hd_217 : hdl 217 = [] := rfl
theorem ow_218 : mOw 218 = 10 := by decide +kernel
theorem mx_218 : mMx 218 = 1 := by decide +kernel
theorem rt_218 : mRt 218 = (some .boolean) := by decide +kernel
theorem hd_218 : hdl 218 = [] := rfl
theorem ow_219 : mOw 219 = 10 := by decide +kernel
theorem mx_219 : mMx 219 = 3 := by decide +kernel
theorem rt_219 : mRt 219 = (some .int) := by decide +kernel
theorem hd_219 : hdl 219 = [] := rfl
theorem ow_220 : mOw 220 = 10 := by decide +kernel
theorem mx_220 : mMx 220 = 3 := by decide +kernel
theorem rt_220 : mRt 220 = (some .int) := by decide +kernel
theorem hd_220 : hdl 220 = [] := rfl
theorem ow_221 : mOw 221 = 10 := by decide +kernel
theorem mx_221 : mMx 221 = 3 := by decide +kernel
theorem rt_221 : mRt 221 = (some .int) := by decide +kernel
theorem hd_221 : hdl 221 = [] := rfl
theorem ow_222 : mOw 222 = 10 := by decide +kernel
theorem mx_222 : mMx 222 = 2 := by decide +kernel
theorem rt_222 : mRt 222 = (some .int) := by decide +kernel
theorem hd_222 : hdl 222 = [] := rfl
theorem ow_223 : mOw 223 = 10 := by decide +kernel
theorem mx_223 : mMx 223 = 3 := by decide +kernel
theorem rt_223 : mRt 223 = (some .int) := by decide +kernel
theorem hd_223 : hdl 223 = [] := rfl
theorem ow_224 : mOw 224 = 10 := by decide +kernel
theorem mx_224 : mMx 224 = 1 := by decide +kernel
theorem rt_224 : mRt 224 = (some .int) := by decide +kernel
theorem hd_224 : hdl 224 = [] := rfl
theorem ow_225 : mOw 225 = 10 := by decide +kernel
theorem mx_225 : mMx 225 = 3 := by decide +kernel
theorem rt_225 : mRt 225 = (some .int) := by decide +kernel
theorem hd_225 : hdl 225 = [] := rfl
theorem ow_226 : mOw 226 = 10 := by decide +kernel
theorem mx_226 : mMx 226 = 2 := by decide +kernel
theorem rt_226 : mRt 226 = (some .int) := by decide +kernel
theorem hd_226 : hdl 226 = [] := rfl
theorem ow_227 : mOw 227 = 10 := by decide +kernel
theorem mx_227 : mMx 227 = 1 := by decide +kernel
theorem rt_227 : mRt 227 = (some .int) := by decide +kernel
theorem hd_227 : hdl 227 = [] := rfl
theorem ow_228 : mOw 228 = 10 := by decide +kernel
theorem mx_228 : mMx 228 = 2 := by decide +kernel
theorem rt_228 : mRt 228 = none := by decide +kernel
theorem hd_228 : hdl 228 = [] := rfl
theorem ow_229 : mOw 229 = 10 := by decide +kernel
theorem mx_229 : mMx 229 = 4 := by decide +kernel
theorem rt_229 : mRt 229 = (some .int) := by decide +kernel
theorem hd_229 : hdl 229 = [] := rfl
theorem ow_230 : mOw 230 = 10 := by decide +kernel
theorem mx_230 : mMx 230 = 4 := by decide +kernel
theorem rt_230 : mRt 230 = none := by decide +kernel
theorem hd_230 : hdl 230 = [] := rfl
theorem ow_231 : mOw 231 = 10 := by decide +kernel
theorem mx_231 : mMx 231 = 3 := by decide +kernel
theorem rt_231 : mRt 231 = (some .int) := by decide +kernel
theorem hd_231 : hdl 231 = [] := rfl
theorem ow_232 : mOw 232 = 10 := by decide +kernel
theorem mx_232 : mMx 232 = 4 := by decide +kernel
theorem rt_232 : mRt 232 = none := by decide +kernel
theorem hd_232 : hdl 232 = [] := rfl
theorem ow_233 : mOw 233 = 10 := by decide +kernel
theorem mx_233 : mMx 233 = 3 := by decide +kernel
theorem rt_233 : mRt 233 = (some .boolean) := by decide +kernel
theorem hd_233 : hdl 233 = [] := rfl
theorem ow_234 : mOw 234 = 10 := by decide +kernel
theorem mx_234 : mMx 234 = 4 := by decide +kernel
theorem rt_234 : mRt 234 = (some .int) := by decide +kernel
theorem hd_234 : hdl 234 = [] := rfl
theorem ow_235 : mOw 235 = 10 := by decide +kernel
theorem mx_235 : mMx 235 = 4 := by decide +kernel
theorem rt_235 : mRt 235 = (some .int) := by decide +kernel
theorem hd_235 : hdl 235 = [] := rfl
theorem ow_236 : mOw 236 = 10 := by decide +kernel
theorem mx_236 : mMx 236 = 3 := by decide +kernel
theorem rt_236 : mRt 236 = (some .int) := by decide +kernel
theorem hd_236 : hdl 236 = [] := rfl
theorem ow_237 : mOw 237 = 10 := by decide +kernel
theorem mx_237 : mMx 237 = 4 := by decide +kernel
theorem rt_237 : mRt 237 = (some .int) := by decide +kernel
theorem hd_237 : hdl 237 = [] := rfl
theorem ow_238 : mOw 238 = 10 := by decide +kernel
theorem mx_238 : mMx 238 = 6 := by decide +kernel
theorem rt_238 : mRt 238 = (some .int) := by decide +kernel
theorem hd_238 : hdl 238 = [] := rfl
theorem ow_239 : mOw 239 = 10 := by decide +kernel
theorem mx_239 : mMx 239 = 1 := by decide +kernel
theorem rt_239 : mRt 239 = (some .int) := by decide +kernel
theorem hd_239 : hdl 239 = [] := rfl
theorem ow_240 : mOw 240 = 10 := by decide +kernel
theorem mx_240 : mMx 240 = 2 := by decide +kernel
theorem rt_240 : mRt 240 = (some .int) := by decide +kernel
theorem hd_240 : hdl 240 = [] := rfl
theorem ow_241 : mOw 241 = 10 := by decide +kernel
theorem mx_241 : mMx 241 = 1 := by decide +kernel
theorem rt_241 : mRt 241 = (some .int) := by decide +kernel
theorem hd_241 : hdl 241 = [] := rfl
theorem ow_242 : mOw 242 = 10 := by decide +kernel
theorem mx_242 : mMx 242 = 1 := by decide +kernel
theorem rt_242 : mRt 242 = (some .int) := by decide +kernel
theorem hd_242 : hdl 242 = [] := rfl
theorem ow_243 : mOw 243 = 10 := by decide +kernel
theorem mx_243 : mMx 243 = 3 := by decide +kernel
theorem rt_243 : mRt 243 = (some .boolean) := by decide +kernel
theorem hd_243 : hdl 243 = [] := rfl
theorem ow_244 : mOw 244 = 10 := by decide +kernel
theorem mx_244 : mMx 244 = 3 := by decide +kernel
theorem rt_244 : mRt 244 = none := by decide +kernel
theorem hd_244 : hdl 244 = [] := rfl
theorem ow_245 : mOw 245 = 10 := by decide +kernel
theorem mx_245 : mMx 245 = 3 := by decide +kernel
theorem rt_245 : mRt 245 = (some .int) := by decide +kernel
theorem hd_245 : hdl 245 = [] := rfl
theorem ow_246 : mOw 246 = 10 := by decide +kernel
theorem mx_246 : mMx 246 = 5 := by decide +kernel
theorem rt_246 : mRt 246 = (some .boolean) := by decide +kernel
theorem hd_246 : hdl 246 = [] := rfl
theorem ow_247 : mOw 247 = 10 := by decide +kernel
theorem mx_247 : mMx 247 = 4 := by decide +kernel
theorem rt_247 : mRt 247 = none := by decide +kernel
theorem hd_247 : hdl 247 = [] := rfl
theorem ow_248 : mOw 248 = 10 := by decide +kernel
theorem mx_248 : mMx 248 = 3 := by decide +kernel
theorem rt_248 : mRt 248 = (some .int) := by decide +kernel
theorem hd_248 : hdl 248 = [] := rfl
theorem ow_249 : mOw 249 = 10 := by decide +kernel
theorem mx_249 : mMx 249 = 3 := by decide +kernel
theorem rt_249 : mRt 249 = (some .int) := by decide +kernel
theorem hd_249 : hdl 249 = [] := rfl
theorem ow_250 : mOw 250 = 10 := by decide +kernel
theorem mx_250 : mMx 250 = 7 := by decide +kernel
theorem rt_250 : mRt 250 = (some .int) := by decide +kernel
theorem hd_250 : hdl 250 = [] := rfl
theorem ow_251 : mOw 251 = 10 := by decide +kernel
theorem mx_251 : mMx 251 = 2 := by decide +kernel
theorem rt_251 : mRt 251 = (some .long) := by decide +kernel
theorem hd_251 : hdl 251 = [] := rfl
theorem ow_252 : mOw 252 = 10 := by decide +kernel
theorem mx_252 : mMx 252 = 1 := by decide +kernel
theorem rt_252 : mRt 252 = (some .long) := by decide +kernel
theorem hd_252 : hdl 252 = [] := rfl
theorem ow_253 : mOw 253 = 10 := by decide +kernel
theorem mx_253 : mMx 253 = 5 := by decide +kernel
theorem rt_253 : mRt 253 = (some .long) := by decide +kernel
theorem hd_253 : hdl 253 = [] := rfl
theorem ow_254 : mOw 254 = 10 := by decide +kernel
theorem mx_254 : mMx 254 = 6 := by decide +kernel
theorem rt_254 : mRt 254 = none := by decide +kernel
theorem hd_254 : hdl 254 = [] := rfl
theorem ow_255 : mOw 255 = 10 := by decide +kernel
theorem mx_255 : mMx 255 = 3 := by decide +kernel
theorem rt_255 : mRt 255 = (some .int) := by decide +kernel
theorem hd_255 : hdl 255 = [] := rfl
theorem ow_256 : mOw 256 = 10 := by decide +kernel
theorem mx_256 : mMx 256 = 4 := by decide +kernel
theorem rt_256 : mRt 256 = (some .int) := by decide +kernel
theorem hd_256 : hdl 256 = [] := rfl
theorem ow_257 : mOw 257 = 10 := by decide +kernel
theorem mx_257 : mMx 257 = 3 := by decide +kernel
theorem rt_257 : mRt 257 = (some .int) := by decide +kernel
theorem hd_257 : hdl 257 = [] := rfl
theorem ow_258 : mOw 258 = 10 := by decide +kernel
theorem mx_258 : mMx 258 = 3 := by decide +kernel
theorem rt_258 : mRt 258 = (some .boolean) := by decide +kernel
theorem hd_258 : hdl 258 = [] := rfl
theorem ow_259 : mOw 259 = 10 := by decide +kernel
theorem mx_259 : mMx 259 = 3 := by decide +kernel
theorem rt_259 : mRt 259 = (some .boolean) := by decide +kernel
theorem hd_259 : hdl 259 = [] := rfl
theorem ow_260 : mOw 260 = 10 := by decide +kernel
theorem mx_260 : mMx 260 = 6 := by decide +kernel
theorem rt_260 : mRt 260 = (some .int) := by decide +kernel
theorem hd_260 : hdl 260 = [] := rfl
theorem ow_261 : mOw 261 = 10 := by decide +kernel
theorem mx_261 : mMx 261 = 1 := by decide +kernel
theorem rt_261 : mRt 261 = (some .int) := by decide +kernel
theorem hd_261 : hdl 261 = [] := rfl
theorem ow_262 : mOw 262 = 10 := by decide +kernel
theorem mx_262 : mMx 262 = 4 := by decide +kernel
theorem rt_262 : mRt 262 = (some .int) := by decide +kernel
theorem hd_262 : hdl 262 = [] := rfl
theorem ow_263 : mOw 263 = 10 := by decide +kernel
theorem mx_263 : mMx 263 = 3 := by decide +kernel
theorem rt_263 : mRt 263 = (some .int) := by decide +kernel
theorem hd_263 : hdl 263 = [] := rfl
theorem ow_264 : mOw 264 = 10 := by decide +kernel
theorem mx_264 : mMx 264 = 3 := by decide +kernel
theorem rt_264 : mRt 264 = (some .int) := by decide +kernel
theorem hd_264 : hdl 264 = [] := rfl
theorem ow_265 : mOw 265 = 10 := by decide +kernel
theorem mx_265 : mMx 265 = 4 := by decide +kernel
theorem rt_265 : mRt 265 = (some .int) := by decide +kernel
theorem hd_265 : hdl 265 = [] := rfl
theorem ow_266 : mOw 266 = 10 := by decide +kernel
theorem mx_266 : mMx 266 = 3 := by decide +kernel
theorem rt_266 : mRt 266 = none := by decide +kernel
theorem hd_266 : hdl 266 = [] := rfl
theorem ow_267 : mOw 267 = 10 := by decide +kernel
theorem mx_267 : mMx 267 = 5 := by decide +kernel
theorem rt_267 : mRt 267 = (some .int) := by decide +kernel
theorem hd_267 : hdl 267 = [] := rfl
theorem ow_268 : mOw 268 = 10 := by decide +kernel
theorem mx_268 : mMx 268 = 5 := by decide +kernel
theorem rt_268 : mRt 268 = (some .int) := by decide +kernel
theorem hd_268 : hdl 268 = [] := rfl
theorem ow_269 : mOw 269 = 10 := by decide +kernel
theorem mx_269 : mMx 269 = 6 := by decide +kernel
theorem rt_269 : mRt 269 = (some .int) := by decide +kernel
theorem hd_269 : hdl 269 = [] := rfl
theorem ow_270 : mOw 270 = 10 := by decide +kernel
theorem mx_270 : mMx 270 = 6 := by decide +kernel
theorem rt_270 : mRt 270 = (some .int) := by decide +kernel
theorem hd_270 : hdl 270 = [] := rfl
theorem ow_271 : mOw 271 = 10 := by decide +kernel
theorem mx_271 : mMx 271 = 2 := by decide +kernel
theorem rt_271 : mRt 271 = (some .int) := by decide +kernel
theorem hd_271 : hdl 271 = [] := rfl
theorem ow_272 : mOw 272 = 10 := by decide +kernel
theorem mx_272 : mMx 272 = 3 := by decide +kernel
theorem rt_272 : mRt 272 = (some .int) := by decide +kernel
theorem hd_272 : hdl 272 = [] := rfl
theorem ow_273 : mOw 273 = 10 := by decide +kernel
theorem mx_273 : mMx 273 = 3 := by decide +kernel
theorem rt_273 : mRt 273 = (some .int) := by decide +kernel
theorem hd_273 : hdl 273 = [] := rfl
theorem ow_274 : mOw 274 = 10 := by decide +kernel
theorem mx_274 : mMx 274 = 2 := by decide +kernel
theorem rt_274 : mRt 274 = (some .boolean) := by decide +kernel
theorem hd_274 : hdl 274 = [] := rfl
theorem ow_275 : mOw 275 = 10 := by decide +kernel
theorem mx_275 : mMx 275 = 5 := by decide +kernel
theorem rt_275 : mRt 275 = none := by decide +kernel
theorem hd_275 : hdl 275 = [] := rfl
theorem ow_276 : mOw 276 = 10 := by decide +kernel
theorem mx_276 : mMx 276 = 2 := by decide +kernel
theorem rt_276 : mRt 276 = (some .int) := by decide +kernel
theorem hd_276 : hdl 276 = [] := rfl
theorem ow_277 : mOw 277 = 10 := by decide +kernel
theorem mx_277 : mMx 277 = 8 := by decide +kernel
theorem rt_277 : mRt 277 = (some .int) := by decide +kernel
theorem hd_277 : hdl 277 = [] := rfl
theorem ow_278 : mOw 278 = 10 := by decide +kernel
theorem mx_278 : mMx 278 = 5 := by decide +kernel
theorem rt_278 : mRt 278 = (some .int) := by decide +kernel
theorem hd_278 : hdl 278 = [] := rfl
theorem ow_279 : mOw 279 = 10 := by decide +kernel
theorem mx_279 : mMx 279 = 1 := by decide +kernel
theorem rt_279 : mRt 279 = none := by decide +kernel
theorem hd_279 : hdl 279 = [] := rfl
theorem ow_280 : mOw 280 = 10 := by decide +kernel
theorem mx_280 : mMx 280 = 7 := by decide +kernel
theorem rt_280 : mRt 280 = (some .int) := by decide +kernel
theorem hd_280 : hdl 280 = [] := rfl
theorem ow_281 : mOw 281 = 10 := by decide +kernel
theorem mx_281 : mMx 281 = 4 := by decide +kernel
theorem rt_281 : mRt 281 = (some .boolean) := by decide +kernel
theorem hd_281 : hdl 281 = [] := rfl
theorem ow_282 : mOw 282 = 10 := by decide +kernel
theorem mx_282 : mMx 282 = 5 := by decide +kernel
theorem rt_282 : mRt 282 = (some .int) := by decide +kernel
theorem hd_282 : hdl 282 = [] := rfl
theorem ow_283 : mOw 283 = 10 := by decide +kernel
theorem mx_283 : mMx 283 = 2 := by decide +kernel
theorem rt_283 : mRt 283 = (some .int) := by decide +kernel
theorem hd_283 : hdl 283 = [] := rfl
theorem ow_284 : mOw 284 = 10 := by decide +kernel
theorem mx_284 : mMx 284 = 3 := by decide +kernel
theorem rt_284 : mRt 284 = none := by decide +kernel
theorem hd_284 : hdl 284 = [] := rfl
theorem ow_285 : mOw 285 = 10 := by decide +kernel
theorem mx_285 : mMx 285 = 7 := by decide +kernel
theorem rt_285 : mRt 285 = (some .int) := by decide +kernel
theorem hd_285 : hdl 285 = [] := rfl
theorem ow_286 : mOw 286 = 10 := by decide +kernel
theorem mx_286 : mMx 286 = 3 := by decide +kernel
theorem rt_286 : mRt 286 = none := by decide +kernel
theorem hd_286 : hdl 286 = [] := rfl
theorem ow_287 : mOw 287 = 10 := by decide +kernel
theorem mx_287 : mMx 287 = 1 := by decide +kernel
theorem rt_287 : mRt 287 = none := by decide +kernel
theorem hd_287 : hdl 287 = [] := rfl
theorem ow_288 : mOw 288 = 10 := by decide +kernel
theorem mx_288 : mMx 288 = 1 := by decide +kernel
theorem rt_288 : mRt 288 = (some .boolean) := by decide +kernel
theorem hd_288 : hdl 288 = [] := rfl
theorem ow_289 : mOw 289 = 26 := by decide +kernel
theorem mx_289 : mMx 289 = 1 := by decide +kernel
theorem rt_289 : mRt 289 = (some .int) := by decide +kernel
theorem hd_289 : hdl 289 = [] := rfl
theorem ow_290 : mOw 290 = 11 := by decide +kernel
theorem mx_290 : mMx 290 = 4 := by decide +kernel
theorem rt_290 : mRt 290 = (some .int) := by decide +kernel
theorem ow_291 : mOw 291 = 11 := by decide +kernel
theorem mx_291 : mMx 291 = 4 := by decide +kernel
theorem rt_291 : mRt 291 = (some .int) := by decide +kernel
theorem ow_292 : mOw 292 = 11 := by decide +kernel
theorem mx_292 : mMx 292 = 5 := by decide +kernel
theorem rt_292 : mRt 292 = (some .int) := by decide +kernel
theorem ow_293 : mOw 293 = 11 := by decide +kernel
theorem mx_293 : mMx 293 = 5 := by decide +kernel
theorem rt_293 : mRt 293 = (some .int) := by decide +kernel
theorem ow_294 : mOw 294 = 11 := by decide +kernel
theorem mx_294 : mMx 294 = 5 := by decide +kernel
theorem rt_294 : mRt 294 = (some .int) := by decide +kernel
theorem ow_295 : mOw 295 = 11 := by decide +kernel
theorem mx_295 : mMx 295 = 4 := by decide +kernel
theorem rt_295 : mRt 295 = (some .int) := by decide +kernel
theorem ow_296 : mOw 296 = 11 := by decide +kernel
theorem mx_296 : mMx 296 = 5 := by decide +kernel
theorem rt_296 : mRt 296 = (some .int) := by decide +kernel
theorem ow_297 : mOw 297 = 11 := by decide +kernel
theorem mx_297 : mMx 297 = 5 := by decide +kernel
theorem rt_297 : mRt 297 = (some .int) := by decide +kernel
theorem ow_298 : mOw 298 = 11 := by decide +kernel
theorem mx_298 : mMx 298 = 5 := by decide +kernel
theorem rt_298 : mRt 298 = (some .int) := by decide +kernel
theorem ow_299 : mOw 299 = 11 := by decide +kernel
theorem mx_299 : mMx 299 = 4 := by decide +kernel
theorem rt_299 : mRt 299 = (some .int) := by decide +kernel
theorem ow_300 : mOw 300 = 11 := by decide +kernel
theorem mx_300 : mMx 300 = 4 := by decide +kernel
theorem rt_300 : mRt 300 = (some .int) := by decide +kernel
theorem ow_301 : mOw 301 = 11 := by decide +kernel
theorem mx_301 : mMx 301 = 4 := by decide +kernel
theorem rt_301 : mRt 301 = (some .int) := by decide +kernel
theorem ow_302 : mOw 302 = 11 := by decide +kernel
theorem mx_302 : mMx 302 = 5 := by decide +kernel
theorem rt_302 : mRt 302 = (some .int) := by decide +kernel
theorem ow_303 : mOw 303 = 11 := by decide +kernel
theorem mx_303 : mMx 303 = 5 := by decide +kernel
theorem rt_303 : mRt 303 = (some .int) := by decide +kernel
theorem ow_304 : mOw 304 = 11 := by decide +kernel
theorem mx_304 : mMx 304 = 4 := by decide +kernel
theorem rt_304 : mRt 304 = (some .int) := by decide +kernel
theorem ow_305 : mOw 305 = 11 := by decide +kernel
theorem mx_305 : mMx 305 = 5 := by decide +kernel
theorem rt_305 : mRt 305 = (some .int) := by decide +kernel
theorem ow_306 : mOw 306 = 11 := by decide +kernel
theorem mx_306 : mMx 306 = 4 := by decide +kernel
theorem rt_306 : mRt 306 = (some .int) := by decide +kernel
theorem ow_307 : mOw 307 = 11 := by decide +kernel
theorem mx_307 : mMx 307 = 4 := by decide +kernel
theorem rt_307 : mRt 307 = (some .int) := by decide +kernel
theorem ow_308 : mOw 308 = 11 := by decide +kernel
theorem mx_308 : mMx 308 = 4 := by decide +kernel
theorem rt_308 : mRt 308 = (some .int) := by decide +kernel
theorem ow_309 : mOw 309 = 11 := by decide +kernel
theorem mx_309 : mMx 309 = 4 := by decide +kernel
theorem rt_309 : mRt 309 = (some .int) := by decide +kernel
theorem ow_310 : mOw 310 = 11 := by decide +kernel
theorem mx_310 : mMx 310 = 4 := by decide +kernel
theorem rt_310 : mRt 310 = (some .int) := by decide +kernel
theorem ow_311 : mOw 311 = 11 := by decide +kernel
theorem mx_311 : mMx 311 = 6 := by decide +kernel
theorem rt_311 : mRt 311 = (some .int) := by decide +kernel
theorem ow_312 : mOw 312 = 11 := by decide +kernel
theorem mx_312 : mMx 312 = 8 := by decide +kernel
theorem rt_312 : mRt 312 = (some .boolean) := by decide +kernel
theorem hd_312 : hdl 312 = [] := rfl
theorem lf_0_11 : lkp fT 0 11 = some (0, 1, 1, 1) := by decide +kernel
theorem lf_0_15 : lkp fT 0 15 = some (0, 0, 0, 0) := by decide +kernel
theorem lf_0_25 : lkp fT 0 25 = some (6, 3, 0, 0) := by decide +kernel
theorem lf_0_34 : lkp fT 0 34 = some (6, 5, 1, 1) := by decide +kernel
theorem lf_0_49 : lkp fT 0 49 = some (6, 6, 1, 1) := by decide +kernel
theorem lf_0_52 : lkp fT 0 52 = some (6, 7, 1, 1) := by decide +kernel
theorem lf_0_59 : lkp fT 0 59 = some (6, 2, 0, 0) := by decide +kernel
theorem lf_1_11 : lkp fT 1 11 = some (1, 2, 1, 1) := by decide +kernel
theorem lf_1_15 : lkp fT 1 15 = some (1, 0, 1, 1) := by decide +kernel
theorem lf_1_19 : lkp fT 1 19 = some (1, 1, 1, 1) := by decide +kernel
theorem lf_1_23 : lkp fT 1 23 = some (5, 0, 1, 1) := by decide +kernel
theorem lf_1_38 : lkp fT 1 38 = some (6, 1, 0, 0) := by decide +kernel
theorem lf_1_45 : lkp fT 1 45 = some (6, 4, 1, 1) := by decide +kernel
theorem lf_1_52 : lkp fT 1 52 = some (1, 3, 0, 0) := by decide +kernel
theorem lf_1_62 : lkp fT 1 62 = some (6, 7, 1, 1) := by decide +kernel
theorem lf_1_70 : lkp fT 1 70 = some (5, 2, 0, 0) := by decide +kernel
theorem lf_1_73 : lkp fT 1 73 = some (5, 3, 1, 1) := by decide +kernel
theorem lf_1_76 : lkp fT 1 76 = some (6, 10, 1, 1) := by decide +kernel
theorem lf_1_79 : lkp fT 1 79 = some (5, 4, 1, 1) := by decide +kernel
theorem lf_2_9 : lkp fT 2 9 = some (2, 3, 1, 1) := by decide +kernel
theorem lf_2_15 : lkp fT 2 15 = some (2, 4, 1, 1) := by decide +kernel
theorem lf_2_18 : lkp fT 2 18 = some (2, 5, 1, 1) := by decide +kernel
theorem lf_2_21 : lkp fT 2 21 = some (2, 6, 1, 1) := by decide +kernel
theorem lf_2_24 : lkp fT 2 24 = some (2, 0, 1, 1) := by decide +kernel
theorem lf_2_28 : lkp fT 2 28 = some (2, 1, 1, 1) := by decide +kernel
theorem lf_2_32 : lkp fT 2 32 = some (5, 6, 2, 0) := by decide +kernel
theorem lf_2_45 : lkp fT 2 45 = some (2, 2, 0, 0) := by decide +kernel
theorem lf_2_56 : lkp fT 2 56 = some (5, 0, 1, 1) := by decide +kernel
theorem lf_2_65 : lkp fT 2 65 = some (7, 0, 0, 0) := by decide +kernel
theorem lf_2_79 : lkp fT 2 79 = some (2, 7, 0, 0) := by decide +kernel
theorem lf_2_86 : lkp fT 2 86 = some (7, 4, 1, 1) := by decide +kernel
theorem lf_2_89 : lkp fT 2 89 = some (6, 5, 1, 1) := by decide +kernel
theorem lf_2_95 : lkp fT 2 95 = some (2, 8, 0, 0) := by decide +kernel
theorem lf_2_98 : lkp fT 2 98 = some (2, 9, 0, 0) := by decide +kernel
theorem lf_3_9 : lkp fT 3 9 = some (3, 1, 1, 1) := by decide +kernel
theorem lf_3_15 : lkp fT 3 15 = some (3, 2, 1, 1) := by decide +kernel
theorem lf_3_25 : lkp fT 3 25 = some (3, 3, 0, 0) := by decide +kernel
theorem lf_3_34 : lkp fT 3 34 = some (3, 9, 2, 0) := by decide +kernel
theorem lf_3_38 : lkp fT 3 38 = some (3, 10, 2, 0) := by decide +kernel
theorem lf_3_41 : lkp fT 3 41 = some (3, 8, 0, 0) := by decide +kernel
theorem lf_3_44 : lkp fT 3 44 = some (3, 0, 0, 0) := by decide +kernel
theorem lf_3_47 : lkp fT 3 47 = some (3, 6, 0, 0) := by decide +kernel
theorem lf_3_53 : lkp fT 3 53 = some (3, 4, 0, 0) := by decide +kernel
theorem lf_3_93 : lkp fT 3 93 = some (7, 0, 0, 0) := by decide +kernel
theorem lf_3_103 : lkp fT 3 103 = some (7, 3, 1, 1) := by decide +kernel
theorem lf_3_107 : lkp fT 3 107 = some (7, 4, 1, 1) := by decide +kernel
theorem lf_3_110 : lkp fT 3 110 = some (7, 5, 1, 1) := by decide +kernel
theorem lf_3_113 : lkp fT 3 113 = some (7, 6, 1, 1) := by decide +kernel
theorem lf_3_116 : lkp fT 3 116 = some (7, 7, 1, 1) := by decide +kernel
theorem lf_3_119 : lkp fT 3 119 = some (7, 1, 0, 0) := by decide +kernel
theorem lf_3_121 : lkp fT 3 121 = some (7, 2, 0, 0) := by decide +kernel
theorem lf_3_123 : lkp fT 3 123 = some (7, 8, 1, 1) := by decide +kernel
theorem lf_3_126 : lkp fT 3 126 = some (4, 1, 0, 0) := by decide +kernel
theorem lf_3_158 : lkp fT 3 158 = some (3, 5, 0, 0) := by decide +kernel
theorem lf_3_161 : lkp fT 3 161 = some (3, 7, 0, 0) := by decide +kernel
theorem lf_4_9 : lkp fT 4 9 = some (4, 0, 1, 1) := by decide +kernel
theorem lf_4_15 : lkp fT 4 15 = some (4, 8, 1, 1) := by decide +kernel
theorem lf_4_18 : lkp fT 4 18 = some (4, 1, 0, 0) := by decide +kernel
theorem lf_4_28 : lkp fT 4 28 = some (4, 9, 0, 0) := by decide +kernel
theorem lf_4_47 : lkp fT 4 47 = some (4, 2, 0, 0) := by decide +kernel
theorem lf_4_50 : lkp fT 4 50 = some (4, 3, 0, 0) := by decide +kernel
theorem lf_4_53 : lkp fT 4 53 = some (4, 4, 0, 0) := by decide +kernel
theorem lf_4_56 : lkp fT 4 56 = some (4, 5, 0, 0) := by decide +kernel
theorem lf_4_59 : lkp fT 4 59 = some (4, 6, 0, 0) := by decide +kernel
theorem lf_4_62 : lkp fT 4 62 = some (4, 7, 0, 0) := by decide +kernel
theorem lf_5_12 : lkp fT 5 12 = some (5, 1, 1, 1) := by decide +kernel
theorem lf_5_18 : lkp fT 5 18 = some (5, 3, 1, 1) := by decide +kernel
theorem lf_5_22 : lkp fT 5 22 = some (5, 4, 1, 1) := by decide +kernel
theorem lf_5_25 : lkp fT 5 25 = some (5, 5, 1, 1) := by decide +kernel
theorem lf_5_33 : lkp fT 5 33 = some (5, 0, 1, 1) := by decide +kernel
theorem lf_5_37 : lkp fT 5 37 = some (5, 6, 2, 0) := by decide +kernel
theorem lf_5_44 : lkp fT 5 44 = some (0, 0, 0, 0) := by decide +kernel
theorem lf_5_48 : lkp fT 5 48 = some (5, 2, 0, 0) := by decide +kernel
theorem lf_5_68 : lkp fT 5 68 = some (6, 1, 0, 0) := by decide +kernel
theorem lf_5_82 : lkp fT 5 82 = some (6, 5, 1, 1) := by decide +kernel
theorem lf_5_92 : lkp fT 5 92 = some (6, 6, 1, 1) := by decide +kernel
theorem lf_5_95 : lkp fT 5 95 = some (6, 7, 1, 1) := by decide +kernel
theorem lf_5_104 : lkp fT 5 104 = some (6, 3, 0, 0) := by decide +kernel
theorem lf_5_107 : lkp fT 5 107 = some (6, 2, 0, 0) := by decide +kernel
theorem lf_6_9 : lkp fT 6 9 = some (6, 4, 1, 1) := by decide +kernel
theorem lf_6_15 : lkp fT 6 15 = some (6, 5, 1, 1) := by decide +kernel
theorem lf_6_18 : lkp fT 6 18 = some (6, 6, 1, 1) := by decide +kernel
theorem lf_6_21 : lkp fT 6 21 = some (6, 7, 1, 1) := by decide +kernel
theorem lf_6_24 : lkp fT 6 24 = some (6, 8, 1, 1) := by decide +kernel
theorem lf_6_27 : lkp fT 6 27 = some (6, 9, 1, 1) := by decide +kernel
theorem lf_6_30 : lkp fT 6 30 = some (6, 10, 1, 1) := by decide +kernel
theorem lf_6_33 : lkp fT 6 33 = some (6, 0, 1, 1) := by decide +kernel
theorem lf_6_37 : lkp fT 6 37 = some (6, 1, 0, 0) := by decide +kernel
theorem lf_6_41 : lkp fT 6 41 = some (6, 2, 0, 0) := by decide +kernel
theorem lf_6_44 : lkp fT 6 44 = some (6, 3, 0, 0) := by decide +kernel
theorem lf_6_47 : lkp fT 6 47 = some (7, 0, 0, 0) := by decide +kernel
theorem lf_6_52 : lkp fT 6 52 = some (7, 6, 1, 1) := by decide +kernel
theorem lf_6_59 : lkp fT 6 59 = some (7, 5, 1, 1) := by decide +kernel
theorem lf_6_62 : lkp fT 6 62 = some (7, 3, 1, 1) := by decide +kernel
theorem lf_6_82 : lkp fT 6 82 = some (7, 4, 1, 1) := by decide +kernel
theorem lf_6_111 : lkp fT 6 111 = some (7, 7, 1, 1) := by decide +kernel
theorem lf_6_114 : lkp fT 6 114 = some (7, 8, 1, 1) := by decide +kernel
theorem lf_6_118 : lkp fT 6 118 = some (4, 1, 0, 0) := by decide +kernel
theorem lf_6_123 : lkp fT 6 123 = some (4, 2, 0, 0) := by decide +kernel
theorem lf_6_126 : lkp fT 6 126 = some (4, 3, 0, 0) := by decide +kernel
theorem lf_6_128 : lkp fT 6 128 = some (4, 4, 0, 0) := by decide +kernel
theorem lf_6_131 : lkp fT 6 131 = some (4, 5, 0, 0) := by decide +kernel
theorem lf_6_133 : lkp fT 6 133 = some (4, 6, 0, 0) := by decide +kernel
theorem lf_6_136 : lkp fT 6 136 = some (4, 7, 0, 0) := by decide +kernel
theorem lf_7_9 : lkp fT 7 9 = some (7, 3, 1, 1) := by decide +kernel
theorem lf_7_15 : lkp fT 7 15 = some (7, 4, 1, 1) := by decide +kernel
theorem lf_7_18 : lkp fT 7 18 = some (7, 5, 1, 1) := by decide +kernel
theorem lf_7_21 : lkp fT 7 21 = some (7, 6, 1, 1) := by decide +kernel
theorem lf_7_24 : lkp fT 7 24 = some (7, 7, 1, 1) := by decide +kernel
theorem lf_7_30 : lkp fT 7 30 = some (7, 8, 1, 1) := by decide +kernel
theorem lf_7_37 : lkp fT 7 37 = some (7, 0, 0, 0) := by decide +kernel
theorem lf_7_41 : lkp fT 7 41 = some (7, 1, 0, 0) := by decide +kernel
theorem lf_7_44 : lkp fT 7 44 = some (7, 2, 0, 0) := by decide +kernel
theorem lf_7_47 : lkp fT 7 47 = some (4, 1, 0, 0) := by decide +kernel
theorem lf_8_11 : lkp fT 8 11 = some (8, 9, 1, 0) := by decide +kernel
theorem lf_8_15 : lkp fT 8 15 = some (8, 10, 1, 0) := by decide +kernel
theorem lf_8_18 : lkp fT 8 18 = some (8, 11, 1, 1) := by decide +kernel
theorem lf_8_21 : lkp fT 8 21 = some (8, 0, 1, 1) := by decide +kernel
theorem lf_8_25 : lkp fT 8 25 = some (8, 1, 1, 1) := by decide +kernel
theorem lf_8_34 : lkp fT 8 34 = some (8, 2, 1, 1) := by decide +kernel
theorem lf_8_53 : lkp fT 8 53 = some (7, 0, 0, 0) := by decide +kernel
theorem lf_8_74 : lkp fT 8 74 = some (6, 1, 0, 0) := by decide +kernel
theorem lf_8_77 : lkp fT 8 77 = some (6, 4, 1, 1) := by decide +kernel
theorem lf_8_88 : lkp fT 8 88 = some (6, 5, 1, 1) := by decide +kernel
theorem lf_8_94 : lkp fT 8 94 = some (6, 2, 0, 0) := by decide +kernel
theorem lf_8_106 : lkp fT 8 106 = some (6, 6, 1, 1) := by decide +kernel
theorem lf_8_122 : lkp fT 8 122 = some (6, 7, 1, 1) := by decide +kernel
theorem lf_8_131 : lkp fT 8 131 = some (8, 3, 0, 0) := by decide +kernel
theorem lf_8_134 : lkp fT 8 134 = some (8, 4, 0, 0) := by decide +kernel
theorem lf_8_148 : lkp fT 8 148 = some (8, 8, 0, 0) := by decide +kernel
theorem lf_8_151 : lkp fT 8 151 = some (8, 5, 0, 0) := by decide +kernel
theorem lf_8_154 : lkp fT 8 154 = some (8, 6, 0, 0) := by decide +kernel
theorem lf_8_163 : lkp fT 8 163 = some (6, 8, 1, 1) := by decide +kernel
theorem lf_8_166 : lkp fT 8 166 = some (8, 7, 0, 0) := by decide +kernel
theorem lf_8_175 : lkp fT 8 175 = some (7, 7, 1, 1) := by decide +kernel
theorem lf_9_9 : lkp fT 9 9 = some (9, 0, 1, 1) := by decide +kernel
theorem lf_9_13 : lkp fT 9 13 = some (9, 1, 0, 0) := by decide +kernel
theorem lf_9_17 : lkp fT 9 17 = some (9, 2, 0, 0) := by decide +kernel
theorem lf_9_20 : lkp fT 9 20 = some (9, 3, 2, 0) := by decide +kernel
theorem lf_9_27 : lkp fT 9 27 = some (9, 5, 1, 1) := by decide +kernel
theorem lf_9_36 : lkp fT 9 36 = some (9, 4, 1, 1) := by decide +kernel
theorem lf_9_40 : lkp fT 9 40 = some (9, 6, 1, 1) := by decide +kernel
theorem lf_9_48 : lkp fT 9 48 = some (9, 7, 1, 1) := by decide +kernel
theorem lf_9_52 : lkp fT 9 52 = some (9, 8, 1, 1) := by decide +kernel
theorem lf_9_57 : lkp fT 9 57 = some (5, 0, 1, 1) := by decide +kernel
theorem lf_9_64 : lkp fT 9 64 = some (9, 9, 1, 1) := by decide +kernel
theorem lf_9_73 : lkp fT 9 73 = some (9, 10, 1, 1) := by decide +kernel
theorem lf_9_80 : lkp fT 9 80 = some (9, 11, 1, 1) := by decide +kernel
theorem lf_9_99 : lkp fT 9 99 = some (3, 0, 0, 0) := by decide +kernel
theorem lf_9_111 : lkp fT 9 111 = some (7, 0, 0, 0) := by decide +kernel
theorem lf_9_114 : lkp fT 9 114 = some (6, 1, 0, 0) := by decide +kernel
theorem lf_9_119 : lkp fT 9 119 = some (7, 1, 0, 0) := by decide +kernel
theorem lf_9_122 : lkp fT 9 122 = some (7, 2, 0, 0) := by decide +kernel
theorem lf_9_133 : lkp fT 9 133 = some (6, 3, 0, 0) := by decide +kernel
theorem lf_9_139 : lkp fT 9 139 = some (6, 2, 0, 0) := by decide +kernel
theorem lf_9_142 : lkp fT 9 142 = some (5, 1, 1, 1) := by decide +kernel
theorem lf_9_146 : lkp fT 9 146 = some (0, 0, 0, 0) := by decide +kernel
theorem lf_9_150 : lkp fT 9 150 = some (5, 2, 0, 0) := by decide +kernel
theorem lf_9_153 : lkp fT 9 153 = some (5, 5, 1, 1) := by decide +kernel
theorem lf_9_165 : lkp fT 9 165 = some (7, 3, 1, 1) := by decide +kernel
theorem lf_9_168 : lkp fT 9 168 = some (7, 4, 1, 1) := by decide +kernel
theorem lf_9_175 : lkp fT 9 175 = some (6, 7, 1, 1) := by decide +kernel
theorem lf_9_178 : lkp fT 9 178 = some (7, 7, 1, 1) := by decide +kernel
theorem lf_9_181 : lkp fT 9 181 = some (6, 5, 1, 1) := by decide +kernel
theorem lf_9_184 : lkp fT 9 184 = some (6, 6, 1, 1) := by decide +kernel
theorem lf_9_198 : lkp fT 9 198 = some (6, 4, 1, 1) := by decide +kernel
theorem lf_9_201 : lkp fT 9 201 = some (6, 8, 1, 1) := by decide +kernel
theorem lf_9_204 : lkp fT 9 204 = some (6, 9, 1, 1) := by decide +kernel
theorem lf_9_207 : lkp fT 9 207 = some (6, 10, 1, 1) := by decide +kernel
theorem lf_9_259 : lkp fT 9 259 = some (2, 2, 0, 0) := by decide +kernel
theorem lf_9_269 : lkp fT 9 269 = some (2, 3, 1, 1) := by decide +kernel
theorem lf_9_354 : lkp fT 9 354 = some (8, 3, 0, 0) := by decide +kernel
theorem lf_9_357 : lkp fT 9 357 = some (8, 4, 0, 0) := by decide +kernel
theorem lf_9_368 : lkp fT 9 368 = some (8, 5, 0, 0) := by decide +kernel
theorem lf_9_371 : lkp fT 9 371 = some (8, 6, 0, 0) := by decide +kernel
theorem lf_9_374 : lkp fT 9 374 = some (8, 7, 0, 0) := by decide +kernel
theorem lf_10_19 : lkp fT 10 19 = some (10, 0, 1, 1) := by decide +kernel
theorem lf_10_35 : lkp fT 10 35 = some (10, 1, 1, 1) := by decide +kernel
theorem lf_10_38 : lkp fT 10 38 = some (10, 2, 1, 1) := by decide +kernel
theorem lf_10_42 : lkp fT 10 42 = some (10, 4, 1, 1) := by decide +kernel
theorem lf_10_45 : lkp fT 10 45 = some (10, 5, 1, 1) := by decide +kernel
theorem lf_10_47 : lkp fT 10 47 = some (10, 6, 1, 1) := by decide +kernel
theorem lf_10_49 : lkp fT 10 49 = some (10, 7, 1, 1) := by decide +kernel
theorem lf_10_52 : lkp fT 10 52 = some (10, 8, 1, 1) := by decide +kernel
theorem lf_10_55 : lkp fT 10 55 = some (10, 9, 1, 1) := by decide +kernel
theorem lf_10_57 : lkp fT 10 57 = some (10, 10, 1, 1) := by decide +kernel
theorem lf_10_60 : lkp fT 10 60 = some (10, 11, 1, 1) := by decide +kernel
theorem lf_10_63 : lkp fT 10 63 = some (10, 12, 1, 1) := by decide +kernel
theorem lf_10_66 : lkp fT 10 66 = some (10, 22, 0, 0) := by decide +kernel
theorem lf_10_70 : lkp fT 10 70 = some (10, 23, 1, 1) := by decide +kernel
theorem lf_10_73 : lkp fT 10 73 = some (10, 24, 1, 1) := by decide +kernel
theorem lf_10_76 : lkp fT 10 76 = some (10, 25, 1, 1) := by decide +kernel
theorem lf_10_79 : lkp fT 10 79 = some (10, 26, 1, 1) := by decide +kernel
theorem lf_10_82 : lkp fT 10 82 = some (10, 27, 1, 1) := by decide +kernel
theorem lf_10_85 : lkp fT 10 85 = some (10, 30, 0, 0) := by decide +kernel
theorem lf_10_88 : lkp fT 10 88 = some (10, 33, 1, 1) := by decide +kernel
theorem lf_10_91 : lkp fT 10 91 = some (10, 34, 1, 1) := by decide +kernel
theorem lf_10_94 : lkp fT 10 94 = some (10, 35, 1, 1) := by decide +kernel
theorem lf_10_97 : lkp fT 10 97 = some (10, 36, 1, 1) := by decide +kernel
theorem lf_10_100 : lkp fT 10 100 = some (10, 37, 1, 1) := by decide +kernel
theorem lf_10_103 : lkp fT 10 103 = some (10, 38, 1, 1) := by decide +kernel
theorem lf_10_107 : lkp fT 10 107 = some (10, 41, 1, 1) := by decide +kernel
theorem lf_10_110 : lkp fT 10 110 = some (10, 42, 1, 1) := by decide +kernel
theorem lf_10_113 : lkp fT 10 113 = some (10, 43, 1, 1) := by decide +kernel
theorem lf_10_116 : lkp fT 10 116 = some (10, 44, 1, 1) := by decide +kernel
theorem lf_10_119 : lkp fT 10 119 = some (10, 45, 1, 1) := by decide +kernel
theorem lf_10_122 : lkp fT 10 122 = some (10, 46, 1, 1) := by decide +kernel
theorem lf_10_125 : lkp fT 10 125 = some (10, 48, 1, 1) := by decide +kernel
theorem lf_10_128 : lkp fT 10 128 = some (10, 53, 1, 1) := by decide +kernel
theorem lf_10_131 : lkp fT 10 131 = some (10, 54, 1, 1) := by decide +kernel
theorem lf_10_134 : lkp fT 10 134 = some (10, 55, 1, 1) := by decide +kernel
theorem lf_10_137 : lkp fT 10 137 = some (10, 56, 1, 1) := by decide +kernel
theorem lf_10_140 : lkp fT 10 140 = some (10, 57, 1, 1) := by decide +kernel
theorem lf_10_143 : lkp fT 10 143 = some (10, 3, 0, 0) := by decide +kernel
theorem lf_10_150 : lkp fT 10 150 = some (10, 28, 0, 0) := by decide +kernel
theorem lf_10_153 : lkp fT 10 153 = some (10, 13, 0, 0) := by decide +kernel
theorem lf_10_156 : lkp fT 10 156 = some (10, 15, 0, 0) := by decide +kernel
theorem lf_10_159 : lkp fT 10 159 = some (10, 14, 0, 0) := by decide +kernel
theorem lf_10_166 : lkp fT 10 166 = some (10, 18, 0, 0) := by decide +kernel
theorem lf_10_169 : lkp fT 10 169 = some (10, 16, 0, 0) := by decide +kernel
theorem lf_10_179 : lkp fT 10 179 = some (10, 17, 0, 0) := by decide +kernel
theorem lf_10_192 : lkp fT 10 192 = some (10, 19, 0, 0) := by decide +kernel
theorem lf_10_195 : lkp fT 10 195 = some (10, 20, 0, 0) := by decide +kernel
theorem lf_10_198 : lkp fT 10 198 = some (10, 21, 0, 0) := by decide +kernel
theorem lf_10_282 : lkp fT 10 282 = some (10, 29, 0, 0) := by decide +kernel
theorem lf_10_285 : lkp fT 10 285 = some (10, 31, 0, 0) := by decide +kernel
theorem lf_10_288 : lkp fT 10 288 = some (10, 32, 0, 0) := by decide +kernel
theorem lf_10_291 : lkp fT 10 291 = some (10, 50, 2, 0) := by decide +kernel
theorem lf_10_392 : lkp fT 10 392 = some (10, 39, 0, 0) := by decide +kernel
theorem lf_10_402 : lkp fT 10 402 = some (10, 40, 0, 0) := by decide +kernel
theorem lf_10_442 : lkp fT 10 442 = some (10, 47, 0, 0) := by decide +kernel
theorem lf_10_462 : lkp fT 10 462 = some (10, 49, 0, 0) := by decide +kernel
theorem lf_10_474 : lkp fT 10 474 = some (10, 51, 0, 0) := by decide +kernel
theorem lf_10_477 : lkp fT 10 477 = some (10, 52, 0, 0) := by decide +kernel
theorem lm_0_5 : lkp mT 0 5 = some (10, 0, 0) := by decide +kernel
theorem lm_0_19 : lkp mT 0 19 = some (14, 0, 5) := by decide +kernel
theorem lm_0_30 : lkp mT 0 30 = some (1, 2, 4) := by decide +kernel
theorem lm_0_37 : lkp mT 0 37 = some (1, 80, 1) := by decide +kernel
theorem lm_0_41 : lkp mT 0 41 = some (0, 5, 4) := by decide +kernel
theorem lm_0_45 : lkp mT 0 45 = some (1, 81, 2) := by decide +kernel
theorem lm_0_55 : lkp mT 0 55 = some (1, 6, 2) := by decide +kernel
theorem lm_0_62 : lkp mT 0 62 = some (1, 79, 2) := by decide +kernel
theorem lm_1_3 : lkp mT 1 3 = some (10, 0, 0) := by decide +kernel
theorem lm_1_29 : lkp mT 1 29 = some (1, 84, 0) := by decide +kernel
theorem lm_1_34 : lkp mT 1 34 = some (1, 16, 2) := by decide +kernel
theorem lm_1_42 : lkp mT 1 42 = some (1, 14, 2) := by decide +kernel
theorem lm_1_48 : lkp mT 1 48 = some (1, 12, 1) := by decide +kernel
theorem lm_1_55 : lkp mT 1 55 = some (1, 15, 2) := by decide +kernel
theorem lm_1_59 : lkp mT 1 59 = some (1, 13, 1) := by decide +kernel
theorem lm_1_65 : lkp mT 1 65 = some (1, 102, 1) := by decide +kernel
theorem lm_2_3 : lkp mT 2 3 = some (10, 0, 0) := by decide +kernel
theorem lm_2_38 : lkp mT 2 38 = some (1, 22, 0) := by decide +kernel
theorem lm_2_41 : lkp mT 2 41 = some (1, 20, 0) := by decide +kernel
theorem lm_2_49 : lkp mT 2 49 = some (1, 23, 3) := by decide +kernel
theorem lm_2_53 : lkp mT 2 53 = some (1, 21, 0) := by decide +kernel
theorem lm_2_60 : lkp mT 2 60 = some (1, 78, 0) := by decide +kernel
theorem lm_2_70 : lkp mT 2 70 = some (1, 100, 0) := by decide +kernel
theorem lm_2_73 : lkp mT 2 73 = some (0, 289, 1) := by decide +kernel
theorem lm_2_82 : lkp mT 2 82 = some (1, 25, 2) := by decide +kernel
theorem lm_2_92 : lkp mT 2 92 = some (1, 83, 1) := by decide +kernel
theorem lm_2_101 : lkp mT 2 101 = some (1, 103, 1) := by decide +kernel
theorem lm_2_105 : lkp mT 2 105 = some (1, 24, 1) := by decide +kernel
theorem lm_2_108 : lkp mT 2 108 = some (1, 82, 2) := by decide +kernel
theorem lm_2_112 : lkp mT 2 112 = some (1, 27, 2) := by decide +kernel
theorem lm_2_115 : lkp mT 2 115 = some (1, 96, 2) := by decide +kernel
theorem lm_2_119 : lkp mT 2 119 = some (11, 0, 2) := by decide +kernel
theorem lm_3_3 : lkp mT 3 3 = some (10, 0, 0) := by decide +kernel
theorem lm_3_19 : lkp mT 3 19 = some (12, 0, 2) := by decide +kernel
theorem lm_3_29 : lkp mT 3 29 = some (1, 98, 0) := by decide +kernel
theorem lm_3_50 : lkp mT 3 50 = some (1, 49, 0) := by decide +kernel
theorem lm_3_56 : lkp mT 3 56 = some (1, 30, 0) := by decide +kernel
theorem lm_3_60 : lkp mT 3 60 = some (1, 44, 0) := by decide +kernel
theorem lm_3_64 : lkp mT 3 64 = some (1, 31, 1) := by decide +kernel
theorem lm_3_68 : lkp mT 3 68 = some (1, 35, 0) := by decide +kernel
theorem lm_3_73 : lkp mT 3 73 = some (1, 46, 1) := by decide +kernel
theorem lm_3_77 : lkp mT 3 77 = some (1, 32, 0) := by decide +kernel
theorem lm_3_82 : lkp mT 3 82 = some (1, 33, 0) := by decide +kernel
theorem lm_3_87 : lkp mT 3 87 = some (1, 34, 0) := by decide +kernel
theorem lm_3_90 : lkp mT 3 90 = some (1, 48, 1) := by decide +kernel
theorem lm_3_96 : lkp mT 3 96 = some (1, 43, 2) := by decide +kernel
theorem lm_3_99 : lkp mT 3 99 = some (1, 47, 1) := by decide +kernel
theorem lm_3_129 : lkp mT 3 129 = some (1, 36, 1) := by decide +kernel
theorem lm_3_132 : lkp mT 3 132 = some (1, 37, 1) := by decide +kernel
theorem lm_3_137 : lkp mT 3 137 = some (1, 54, 1) := by decide +kernel
theorem lm_3_141 : lkp mT 3 141 = some (1, 38, 1) := by decide +kernel
theorem lm_3_146 : lkp mT 3 146 = some (1, 39, 1) := by decide +kernel
theorem lm_3_149 : lkp mT 3 149 = some (1, 40, 1) := by decide +kernel
theorem lm_3_152 : lkp mT 3 152 = some (1, 41, 1) := by decide +kernel
theorem lm_3_155 : lkp mT 3 155 = some (1, 42, 1) := by decide +kernel
theorem lm_3_164 : lkp mT 3 164 = some (1, 45, 0) := by decide +kernel
theorem lm_3_184 : lkp mT 3 184 = some (15, 0, 0) := by decide +kernel
theorem lm_3_188 : lkp mT 3 188 = some (16, 0, 1) := by decide +kernel
theorem lm_3_192 : lkp mT 3 192 = some (0, 50, 1) := by decide +kernel
theorem lm_3_196 : lkp mT 3 196 = some (0, 51, 1) := by decide +kernel
theorem lm_3_201 : lkp mT 3 201 = some (17, 0, 1) := by decide +kernel
theorem lm_4_3 : lkp mT 4 3 = some (10, 0, 0) := by decide +kernel
theorem lm_4_22 : lkp mT 4 22 = some (14, 0, 5) := by decide +kernel
theorem lm_4_31 : lkp mT 4 31 = some (1, 56, 1) := by decide +kernel
theorem lm_4_35 : lkp mT 4 35 = some (1, 58, 1) := by decide +kernel
theorem lm_4_39 : lkp mT 4 39 = some (1, 57, 0) := by decide +kernel
theorem lm_4_43 : lkp mT 4 43 = some (0, 59, 3) := by decide +kernel
theorem lm_5_3 : lkp mT 5 3 = some (10, 0, 0) := by decide +kernel
theorem lm_5_11 : lkp mT 5 11 = some (3, 0, 0) := by decide +kernel
theorem lm_5_30 : lkp mT 5 30 = some (2, 74, 1) := by decide +kernel
theorem lm_5_41 : lkp mT 5 41 = some (1, 75, 0) := by decide +kernel
theorem lm_5_51 : lkp mT 5 51 = some (1, 76, 1) := by decide +kernel
theorem lm_5_55 : lkp mT 5 55 = some (1, 1, 1) := by decide +kernel
theorem lm_5_58 : lkp mT 5 58 = some (14, 0, 5) := by decide +kernel
theorem lm_5_64 : lkp mT 5 64 = some (1, 77, 1) := by decide +kernel
theorem lm_5_71 : lkp mT 5 71 = some (1, 63, 1) := by decide +kernel
theorem lm_5_74 : lkp mT 5 74 = some (1, 79, 2) := by decide +kernel
theorem lm_5_78 : lkp mT 5 78 = some (1, 73, 4) := by decide +kernel
theorem lm_5_85 : lkp mT 5 85 = some (1, 80, 1) := by decide +kernel
theorem lm_5_89 : lkp mT 5 89 = some (1, 81, 2) := by decide +kernel
theorem lm_5_98 : lkp mT 5 98 = some (1, 3, 1) := by decide +kernel
theorem lm_5_101 : lkp mT 5 101 = some (1, 90, 1) := by decide +kernel
theorem lm_5_110 : lkp mT 5 110 = some (1, 4, 1) := by decide +kernel
theorem lm_5_114 : lkp mT 5 114 = some (1, 2, 4) := by decide +kernel
theorem lm_6_3 : lkp mT 6 3 = some (10, 0, 0) := by decide +kernel
theorem lm_6_53 : lkp mT 6 53 = some (14, 0, 5) := by decide +kernel
theorem lm_6_65 : lkp mT 6 65 = some (1, 101, 1) := by decide +kernel
theorem lm_6_69 : lkp mT 6 69 = some (11, 0, 2) := by decide +kernel
theorem lm_6_75 : lkp mT 6 75 = some (1, 102, 1) := by decide +kernel
theorem lm_6_78 : lkp mT 6 78 = some (1, 82, 2) := by decide +kernel
theorem lm_6_85 : lkp mT 6 85 = some (1, 83, 1) := by decide +kernel
theorem lm_6_88 : lkp mT 6 88 = some (1, 85, 1) := by decide +kernel
theorem lm_6_91 : lkp mT 6 91 = some (1, 103, 1) := by decide +kernel
theorem lm_6_95 : lkp mT 6 95 = some (1, 84, 0) := by decide +kernel
theorem lm_6_98 : lkp mT 6 98 = some (1, 86, 1) := by decide +kernel
theorem lm_6_101 : lkp mT 6 101 = some (1, 87, 0) := by decide +kernel
theorem lm_6_105 : lkp mT 6 105 = some (12, 0, 2) := by decide +kernel
theorem lm_6_108 : lkp mT 6 108 = some (1, 92, 2) := by decide +kernel
theorem lm_6_138 : lkp mT 6 138 = some (1, 55, 0) := by decide +kernel
theorem lm_6_141 : lkp mT 6 141 = some (1, 78, 0) := by decide +kernel
theorem lm_6_144 : lkp mT 6 144 = some (13, 0, 1) := by decide +kernel
theorem lm_7_3 : lkp mT 7 3 = some (10, 0, 0) := by decide +kernel
theorem lm_7_29 : lkp mT 7 29 = some (3, 52, 0) := by decide +kernel
theorem lm_7_34 : lkp mT 7 34 = some (1, 98, 0) := by decide +kernel
theorem lm_7_50 : lkp mT 7 50 = some (14, 0, 5) := by decide +kernel
theorem lm_7_56 : lkp mT 7 56 = some (1, 53, 1) := by decide +kernel
theorem lm_7_60 : lkp mT 7 60 = some (13, 0, 1) := by decide +kernel
theorem lm_8_3 : lkp mT 8 3 = some (10, 0, 0) := by decide +kernel
theorem lm_8_31 : lkp mT 8 31 = some (2, 74, 1) := by decide +kernel
theorem lm_8_37 : lkp mT 8 37 = some (1, 76, 1) := by decide +kernel
theorem lm_8_41 : lkp mT 8 41 = some (1, 77, 1) := by decide +kernel
theorem lm_8_45 : lkp mT 8 45 = some (1, 80, 1) := by decide +kernel
theorem lm_8_49 : lkp mT 8 49 = some (1, 89, 0) := by decide +kernel
theorem lm_8_59 : lkp mT 8 59 = some (1, 105, 1) := by decide +kernel
theorem lm_8_62 : lkp mT 8 62 = some (1, 78, 0) := by decide +kernel
theorem lm_8_65 : lkp mT 8 65 = some (0, 289, 1) := by decide +kernel
theorem lm_8_70 : lkp mT 8 70 = some (1, 108, 1) := by decide +kernel
theorem lm_8_80 : lkp mT 8 80 = some (1, 88, 0) := by decide +kernel
theorem lm_8_84 : lkp mT 8 84 = some (1, 81, 2) := by decide +kernel
theorem lm_8_91 : lkp mT 8 91 = some (1, 87, 0) := by decide +kernel
theorem lm_8_97 : lkp mT 8 97 = some (1, 111, 1) := by decide +kernel
theorem lm_8_100 : lkp mT 8 100 = some (1, 90, 1) := by decide +kernel
theorem lm_8_103 : lkp mT 8 103 = some (1, 91, 1) := by decide +kernel
theorem lm_8_110 : lkp mT 8 110 = some (1, 117, 1) := by decide +kernel
theorem lm_8_113 : lkp mT 8 113 = some (12, 0, 2) := by decide +kernel
theorem lm_8_119 : lkp mT 8 119 = some (1, 102, 1) := by decide +kernel
theorem lm_8_125 : lkp mT 8 125 = some (1, 103, 1) := by decide +kernel
theorem lm_8_128 : lkp mT 8 128 = some (13, 0, 1) := by decide +kernel
theorem lm_8_137 : lkp mT 8 137 = some (1, 119, 0) := by decide +kernel
theorem lm_8_140 : lkp mT 8 140 = some (1, 120, 2) := by decide +kernel
theorem lm_8_144 : lkp mT 8 144 = some (1, 121, 3) := by decide +kernel
theorem lm_8_157 : lkp mT 8 157 = some (1, 123, 0) := by decide +kernel
theorem lm_8_160 : lkp mT 8 160 = some (1, 84, 0) := by decide +kernel
theorem lm_8_169 : lkp mT 8 169 = some (1, 124, 1) := by decide +kernel
theorem lm_8_172 : lkp mT 8 172 = some (11, 0, 2) := by decide +kernel
theorem lm_9_1 : lkp mT 9 1 = some (10, 0, 0) := by decide +kernel
theorem lm_9_26 : lkp mT 9 26 = some (2, 97, 0) := by decide +kernel
theorem lm_9_33 : lkp mT 9 33 = some (2, 28, 2) := by decide +kernel
theorem lm_9_45 : lkp mT 9 45 = some (2, 60, 1) := by decide +kernel
theorem lm_9_61 : lkp mT 9 61 = some (2, 104, 2) := by decide +kernel
theorem lm_9_70 : lkp mT 9 70 = some (2, 17, 2) := by decide +kernel
theorem lm_9_79 : lkp mT 9 79 = some (2, 7, 2) := by decide +kernel
theorem lm_9_84 : lkp mT 9 84 = some (1, 170, 1) := by decide +kernel
theorem lm_9_95 : lkp mT 9 95 = some (1, 29, 1) := by decide +kernel
theorem lm_9_102 : lkp mT 9 102 = some (1, 63, 1) := by decide +kernel
theorem lm_9_105 : lkp mT 9 105 = some (1, 99, 1) := by decide +kernel
theorem lm_9_108 : lkp mT 9 108 = some (1, 61, 0) := by decide +kernel
theorem lm_9_125 : lkp mT 9 125 = some (1, 88, 0) := by decide +kernel
theorem lm_9_129 : lkp mT 9 129 = some (1, 87, 0) := by decide +kernel
theorem lm_9_136 : lkp mT 9 136 = some (1, 93, 0) := by decide +kernel
theorem lm_9_162 : lkp mT 9 162 = some (1, 171, 1) := by decide +kernel
theorem lm_9_171 : lkp mT 9 171 = some (1, 82, 2) := by decide +kernel
theorem lm_9_187 : lkp mT 9 187 = some (1, 77, 1) := by decide +kernel
theorem lm_9_192 : lkp mT 9 192 = some (1, 173, 1) := by decide +kernel
theorem lm_9_195 : lkp mT 9 195 = some (1, 84, 0) := by decide +kernel
theorem lm_9_210 : lkp mT 9 210 = some (1, 86, 1) := by decide +kernel
theorem lm_9_216 : lkp mT 9 216 = some (1, 100, 0) := by decide +kernel
theorem lm_9_219 : lkp mT 9 219 = some (1, 78, 0) := by decide +kernel
theorem lm_9_222 : lkp mT 9 222 = some (1, 64, 2) := by decide +kernel
theorem lm_9_226 : lkp mT 9 226 = some (1, 65, 1) := by decide +kernel
theorem lm_9_229 : lkp mT 9 229 = some (1, 66, 2) := by decide +kernel
theorem lm_9_233 : lkp mT 9 233 = some (1, 67, 2) := by decide +kernel
theorem lm_9_236 : lkp mT 9 236 = some (1, 68, 2) := by decide +kernel
theorem lm_9_239 : lkp mT 9 239 = some (1, 69, 1) := by decide +kernel
theorem lm_9_242 : lkp mT 9 242 = some (1, 70, 1) := by decide +kernel
theorem lm_9_245 : lkp mT 9 245 = some (1, 71, 0) := by decide +kernel
theorem lm_9_248 : lkp mT 9 248 = some (1, 89, 0) := by decide +kernel
theorem lm_9_251 : lkp mT 9 251 = some (1, 105, 1) := by decide +kernel
theorem lm_9_256 : lkp mT 9 256 = some (1, 18, 0) := by decide +kernel
theorem lm_9_262 : lkp mT 9 262 = some (0, 289, 1) := by decide +kernel
theorem lm_9_272 : lkp mT 9 272 = some (1, 19, 2) := by decide +kernel
theorem lm_9_276 : lkp mT 9 276 = some (1, 116, 0) := by decide +kernel
theorem lm_9_279 : lkp mT 9 279 = some (1, 112, 0) := by decide +kernel
theorem lm_9_282 : lkp mT 9 282 = some (1, 26, 0) := by decide +kernel
theorem lm_9_287 : lkp mT 9 287 = some (1, 96, 2) := by decide +kernel
theorem lm_9_290 : lkp mT 9 290 = some (1, 172, 1) := by decide +kernel
theorem lm_9_295 : lkp mT 9 295 = some (1, 110, 2) := by decide +kernel
theorem lm_9_298 : lkp mT 9 298 = some (1, 114, 0) := by decide +kernel
theorem lm_9_301 : lkp mT 9 301 = some (1, 107, 1) := by decide +kernel
theorem lm_9_304 : lkp mT 9 304 = some (1, 115, 0) := by decide +kernel
theorem lm_9_309 : lkp mT 9 309 = some (1, 109, 0) := by decide +kernel
theorem lm_9_312 : lkp mT 9 312 = some (1, 85, 1) := by decide +kernel
theorem lm_9_315 : lkp mT 9 315 = some (1, 111, 1) := by decide +kernel
theorem lm_9_318 : lkp mT 9 318 = some (1, 95, 0) := by decide +kernel
theorem lm_9_323 : lkp mT 9 323 = some (1, 113, 1) := by decide +kernel
theorem lm_9_326 : lkp mT 9 326 = some (1, 106, 0) := by decide +kernel
theorem lm_9_329 : lkp mT 9 329 = some (1, 94, 0) := by decide +kernel
theorem lm_9_332 : lkp mT 9 332 = some (1, 72, 2) := by decide +kernel
theorem lm_9_335 : lkp mT 9 335 = some (1, 9, 0) := by decide +kernel
theorem lm_9_338 : lkp mT 9 338 = some (1, 10, 0) := by decide +kernel
theorem lm_9_341 : lkp mT 9 341 = some (1, 8, 0) := by decide +kernel
theorem lm_9_346 : lkp mT 9 346 = some (1, 11, 0) := by decide +kernel
theorem lm_9_351 : lkp mT 9 351 = some (1, 118, 0) := by decide +kernel
theorem lm_9_364 : lkp mT 9 364 = some (1, 122, 2) := by decide +kernel
theorem lm_9_377 : lkp mT 9 377 = some (1, 62, 1) := by decide +kernel
theorem lm_10_3 : lkp mT 10 3 = some (10, 0, 0) := by decide +kernel
theorem lm_10_146 : lkp mT 10 146 = some (0, 178, 3) := by decide +kernel
theorem lm_10_162 : lkp mT 10 162 = some (1, 183, 1) := by decide +kernel
theorem lm_10_172 : lkp mT 10 172 = some (0, 184, 1) := by decide +kernel
theorem lm_10_176 : lkp mT 10 176 = some (0, 185, 1) := by decide +kernel
theorem lm_10_183 : lkp mT 10 183 = some (12, 0, 2) := by decide +kernel
theorem lm_10_189 : lkp mT 10 189 = some (0, 186, 1) := by decide +kernel
theorem lm_10_201 : lkp mT 10 201 = some (15, 0, 0) := by decide +kernel
theorem lm_10_205 : lkp mT 10 205 = some (16, 0, 1) := by decide +kernel
theorem lm_10_209 : lkp mT 10 209 = some (1, 189, 1) := by decide +kernel
theorem lm_10_213 : lkp mT 10 213 = some (1, 191, 1) := by decide +kernel
theorem lm_10_216 : lkp mT 10 216 = some (1, 188, 1) := by decide +kernel
theorem lm_10_220 : lkp mT 10 220 = some (1, 187, 0) := by decide +kernel
theorem lm_10_223 : lkp mT 10 223 = some (1, 193, 2) := by decide +kernel
theorem lm_10_226 : lkp mT 10 226 = some (1, 194, 1) := by decide +kernel
theorem lm_10_229 : lkp mT 10 229 = some (1, 190, 1) := by decide +kernel
theorem lm_10_233 : lkp mT 10 233 = some (1, 192, 1) := by decide +kernel
theorem lm_10_236 : lkp mT 10 236 = some (1, 200, 1) := by decide +kernel
theorem lm_10_239 : lkp mT 10 239 = some (1, 195, 1) := by decide +kernel
theorem lm_10_242 : lkp mT 10 242 = some (1, 196, 1) := by decide +kernel
theorem lm_10_247 : lkp mT 10 247 = some (1, 197, 1) := by decide +kernel
theorem lm_10_250 : lkp mT 10 250 = some (1, 198, 1) := by decide +kernel
theorem lm_10_255 : lkp mT 10 255 = some (1, 199, 1) := by decide +kernel
theorem lm_10_266 : lkp mT 10 266 = some (1, 201, 1) := by decide +kernel
theorem lm_10_269 : lkp mT 10 269 = some (1, 176, 1) := by decide +kernel
theorem lm_10_272 : lkp mT 10 272 = some (1, 202, 1) := by decide +kernel
theorem lm_10_275 : lkp mT 10 275 = some (1, 205, 0) := by decide +kernel
theorem lm_10_278 : lkp mT 10 278 = some (0, 204, 1) := by decide +kernel
theorem lm_10_295 : lkp mT 10 295 = some (1, 210, 1) := by decide +kernel
theorem lm_10_298 : lkp mT 10 298 = some (11, 0, 2) := by decide +kernel
theorem lm_10_301 : lkp mT 10 301 = some (1, 211, 2) := by decide +kernel
theorem lm_10_305 : lkp mT 10 305 = some (1, 212, 1) := by decide +kernel
theorem lm_10_308 : lkp mT 10 308 = some (1, 213, 1) := by decide +kernel
theorem lm_10_311 : lkp mT 10 311 = some (1, 214, 1) := by decide +kernel
theorem lm_10_314 : lkp mT 10 314 = some (1, 215, 1) := by decide +kernel
theorem lm_10_317 : lkp mT 10 317 = some (13, 0, 1) := by decide +kernel
theorem lm_10_320 : lkp mT 10 320 = some (1, 216, 1) := by decide +kernel
theorem lm_10_323 : lkp mT 10 323 = some (1, 217, 0) := by decide +kernel
theorem lm_10_326 : lkp mT 10 326 = some (1, 218, 0) := by decide +kernel
theorem lm_10_330 : lkp mT 10 330 = some (1, 220, 0) := by decide +kernel
theorem lm_10_333 : lkp mT 10 333 = some (1, 180, 1) := by decide +kernel
theorem lm_10_336 : lkp mT 10 336 = some (1, 209, 1) := by decide +kernel
theorem lm_10_339 : lkp mT 10 339 = some (1, 221, 0) := by decide +kernel
theorem lm_10_342 : lkp mT 10 342 = some (1, 181, 1) := by decide +kernel
theorem lm_10_347 : lkp mT 10 347 = some (1, 207, 2) := by decide +kernel
theorem lm_10_351 : lkp mT 10 351 = some (1, 226, 1) := by decide +kernel
theorem lm_10_354 : lkp mT 10 354 = some (1, 228, 0) := by decide +kernel
theorem lm_10_357 : lkp mT 10 357 = some (1, 230, 1) := by decide +kernel
theorem lm_10_360 : lkp mT 10 360 = some (1, 177, 1) := by decide +kernel
theorem lm_10_363 : lkp mT 10 363 = some (1, 232, 2) := by decide +kernel
theorem lm_10_371 : lkp mT 10 371 = some (1, 227, 0) := by decide +kernel
theorem lm_10_374 : lkp mT 10 374 = some (0, 236, 3) := by decide +kernel
theorem lm_10_378 : lkp mT 10 378 = some (1, 237, 0) := by decide +kernel
theorem lm_10_381 : lkp mT 10 381 = some (1, 238, 1) := by decide +kernel
theorem lm_10_386 : lkp mT 10 386 = some (1, 208, 2) := by decide +kernel
theorem lm_10_389 : lkp mT 10 389 = some (1, 219, 0) := by decide +kernel
theorem lm_10_395 : lkp mT 10 395 = some (0, 179, 2) := by decide +kernel
theorem lm_10_399 : lkp mT 10 399 = some (0, 245, 1) := by decide +kernel
theorem lm_10_405 : lkp mT 10 405 = some (1, 246, 3) := by decide +kernel
theorem lm_10_409 : lkp mT 10 409 = some (1, 244, 0) := by decide +kernel
theorem lm_10_412 : lkp mT 10 412 = some (1, 247, 1) := by decide +kernel
theorem lm_10_415 : lkp mT 10 415 = some (1, 248, 0) := by decide +kernel
theorem lm_10_418 : lkp mT 10 418 = some (1, 251, 1) := by decide +kernel
theorem lm_10_424 : lkp mT 10 424 = some (1, 254, 1) := by decide +kernel
theorem lm_10_429 : lkp mT 10 429 = some (1, 258, 2) := by decide +kernel
theorem lm_10_432 : lkp mT 10 432 = some (1, 260, 1) := by decide +kernel
theorem lm_10_437 : lkp mT 10 437 = some (1, 266, 1) := by decide +kernel
theorem lm_10_445 : lkp mT 10 445 = some (1, 274, 0) := by decide +kernel
theorem lm_10_450 : lkp mT 10 450 = some (1, 275, 0) := by decide +kernel
theorem lm_10_453 : lkp mT 10 453 = some (1, 277, 1) := by decide +kernel
theorem lm_10_456 : lkp mT 10 456 = some (1, 280, 3) := by decide +kernel
theorem lm_10_459 : lkp mT 10 459 = some (1, 281, 2) := by decide +kernel
theorem lm_10_466 : lkp mT 10 466 = some (1, 283, 1) := by decide +kernel
theorem lm_10_471 : lkp mT 10 471 = some (1, 284, 0) := by decide +kernel
theorem lm_10_480 : lkp mT 10 480 = some (0, 286, 2) := by decide +kernel
theorem lm_11_7 : lkp mT 11 7 = some (1, 127, 1) := by decide +kernel
theorem lm_11_15 : lkp mT 11 15 = some (1, 129, 1) := by decide +kernel
theorem lm_11_20 : lkp mT 11 20 = some (1, 130, 2) := by decide +kernel
theorem lm_11_24 : lkp mT 11 24 = some (1, 131, 2) := by decide +kernel
theorem lm_11_27 : lkp mT 11 27 = some (1, 133, 2) := by decide +kernel
theorem lm_11_30 : lkp mT 11 30 = some (1, 134, 1) := by decide +kernel
theorem lm_11_33 : lkp mT 11 33 = some (1, 135, 2) := by decide +kernel
theorem lm_11_37 : lkp mT 11 37 = some (1, 136, 2) := by decide +kernel
theorem lm_11_40 : lkp mT 11 40 = some (1, 137, 2) := by decide +kernel
theorem lm_11_43 : lkp mT 11 43 = some (1, 142, 1) := by decide +kernel
theorem lm_11_47 : lkp mT 11 47 = some (1, 143, 1) := by decide +kernel
theorem lm_11_50 : lkp mT 11 50 = some (1, 144, 1) := by decide +kernel
theorem lm_11_53 : lkp mT 11 53 = some (1, 149, 2) := by decide +kernel
theorem lm_11_56 : lkp mT 11 56 = some (1, 150, 2) := by decide +kernel
theorem lm_11_59 : lkp mT 11 59 = some (1, 152, 1) := by decide +kernel
theorem lm_11_62 : lkp mT 11 62 = some (1, 154, 2) := by decide +kernel
theorem lm_11_66 : lkp mT 11 66 = some (1, 156, 1) := by decide +kernel
theorem lm_11_69 : lkp mT 11 69 = some (1, 157, 1) := by decide +kernel
theorem lm_11_72 : lkp mT 11 72 = some (1, 159, 1) := by decide +kernel
theorem lm_11_75 : lkp mT 11 75 = some (1, 163, 1) := by decide +kernel
theorem lm_11_78 : lkp mT 11 78 = some (1, 166, 1) := by decide +kernel
theorem lm_11_81 : lkp mT 11 81 = some (1, 167, 3) := by decide +kernel
theorem lm_11_85 : lkp mT 11 85 = some (2, 125, 0) := by decide +kernel
theorem lm_11_88 : lkp mT 11 88 = some (2, 174, 0) := by decide +kernel
theorem lm_11_89 : lkp mT 11 89 = some (1, 126, 5) := by decide +kernel
theorem lm_11_93 : lkp mT 11 93 = some (1, 182, 5) := by decide +kernel
theorem lm_11_94 : lkp mT 11 94 = some (0, 290, 3) := by decide +kernel
theorem lm_11_99 : lkp mT 11 99 = some (1, 203, 1) := by decide +kernel
theorem lm_11_100 : lkp mT 11 100 = some (1, 175, 0) := by decide +kernel
theorem lm_11_104 : lkp mT 11 104 = some (1, 128, 0) := by decide +kernel
theorem lm_11_107 : lkp mT 11 107 = some (1, 206, 0) := by decide +kernel
theorem lm_11_108 : lkp mT 11 108 = some (0, 291, 3) := by decide +kernel
theorem lm_11_110 : lkp mT 11 110 = some (1, 222, 1) := by decide +kernel
theorem lm_11_111 : lkp mT 11 111 = some (0, 292, 4) := by decide +kernel
theorem lm_11_114 : lkp mT 11 114 = some (1, 223, 2) := by decide +kernel
theorem lm_11_115 : lkp mT 11 115 = some (0, 293, 4) := by decide +kernel
theorem lm_11_117 : lkp mT 11 117 = some (1, 225, 2) := by decide +kernel
theorem lm_11_118 : lkp mT 11 118 = some (1, 132, 0) := by decide +kernel
theorem lm_11_121 : lkp mT 11 121 = some (1, 224, 0) := by decide +kernel
theorem lm_11_122 : lkp mT 11 122 = some (0, 294, 4) := by decide +kernel
theorem lm_11_124 : lkp mT 11 124 = some (1, 229, 2) := by decide +kernel
theorem lm_11_125 : lkp mT 11 125 = some (0, 295, 3) := by decide +kernel
theorem lm_11_127 : lkp mT 11 127 = some (1, 231, 1) := by decide +kernel
theorem lm_11_128 : lkp mT 11 128 = some (0, 296, 4) := by decide +kernel
theorem lm_11_130 : lkp mT 11 130 = some (1, 233, 2) := by decide +kernel
theorem lm_11_131 : lkp mT 11 131 = some (0, 297, 4) := by decide +kernel
theorem lm_11_133 : lkp mT 11 133 = some (1, 234, 2) := by decide +kernel
theorem lm_11_134 : lkp mT 11 134 = some (0, 298, 4) := by decide +kernel
theorem lm_11_136 : lkp mT 11 136 = some (1, 235, 2) := by decide +kernel
theorem lm_11_137 : lkp mT 11 137 = some (1, 138, 0) := by decide +kernel
theorem lm_11_140 : lkp mT 11 140 = some (1, 239, 0) := by decide +kernel
theorem lm_11_141 : lkp mT 11 141 = some (1, 139, 1) := by decide +kernel
theorem lm_11_144 : lkp mT 11 144 = some (1, 240, 1) := by decide +kernel
theorem lm_11_145 : lkp mT 11 145 = some (1, 140, 0) := by decide +kernel
theorem lm_11_148 : lkp mT 11 148 = some (1, 241, 0) := by decide +kernel
theorem lm_11_149 : lkp mT 11 149 = some (1, 141, 0) := by decide +kernel
theorem lm_11_152 : lkp mT 11 152 = some (1, 242, 0) := by decide +kernel
theorem lm_11_153 : lkp mT 11 153 = some (0, 299, 3) := by decide +kernel
theorem lm_11_155 : lkp mT 11 155 = some (1, 243, 1) := by decide +kernel
theorem lm_11_156 : lkp mT 11 156 = some (0, 300, 3) := by decide +kernel
theorem lm_11_158 : lkp mT 11 158 = some (1, 249, 1) := by decide +kernel
theorem lm_11_159 : lkp mT 11 159 = some (0, 301, 3) := by decide +kernel
theorem lm_11_161 : lkp mT 11 161 = some (1, 250, 1) := by decide +kernel
theorem lm_11_162 : lkp mT 11 162 = some (1, 145, 0) := by decide +kernel
theorem lm_11_166 : lkp mT 11 166 = some (1, 252, 0) := by decide +kernel
theorem lm_11_167 : lkp mT 11 167 = some (1, 146, 0) := by decide +kernel
theorem lm_11_170 : lkp mT 11 170 = some (1, 255, 0) := by decide +kernel
theorem lm_11_171 : lkp mT 11 171 = some (1, 147, 0) := by decide +kernel
theorem lm_11_174 : lkp mT 11 174 = some (1, 256, 0) := by decide +kernel
theorem lm_11_175 : lkp mT 11 175 = some (1, 148, 0) := by decide +kernel
theorem lm_11_178 : lkp mT 11 178 = some (1, 261, 0) := by decide +kernel
theorem lm_11_179 : lkp mT 11 179 = some (0, 302, 4) := by decide +kernel
theorem lm_11_181 : lkp mT 11 181 = some (1, 259, 2) := by decide +kernel
theorem lm_11_182 : lkp mT 11 182 = some (0, 303, 4) := by decide +kernel
theorem lm_11_184 : lkp mT 11 184 = some (1, 262, 2) := by decide +kernel
theorem lm_11_185 : lkp mT 11 185 = some (1, 151, 0) := by decide +kernel
theorem lm_11_188 : lkp mT 11 188 = some (1, 263, 0) := by decide +kernel
theorem lm_11_189 : lkp mT 11 189 = some (0, 304, 3) := by decide +kernel
theorem lm_11_191 : lkp mT 11 191 = some (1, 267, 1) := by decide +kernel
theorem lm_11_192 : lkp mT 11 192 = some (1, 153, 0) := by decide +kernel
theorem lm_11_195 : lkp mT 11 195 = some (1, 269, 0) := by decide +kernel
theorem lm_11_196 : lkp mT 11 196 = some (0, 305, 4) := by decide +kernel
theorem lm_11_198 : lkp mT 11 198 = some (1, 253, 2) := by decide +kernel
theorem lm_11_199 : lkp mT 11 199 = some (1, 155, 0) := by decide +kernel
theorem lm_11_202 : lkp mT 11 202 = some (1, 270, 0) := by decide +kernel
theorem lm_11_203 : lkp mT 11 203 = some (0, 306, 3) := by decide +kernel
theorem lm_11_205 : lkp mT 11 205 = some (1, 271, 1) := by decide +kernel
theorem lm_11_206 : lkp mT 11 206 = some (0, 307, 3) := by decide +kernel
theorem lm_11_208 : lkp mT 11 208 = some (1, 257, 1) := by decide +kernel
theorem lm_11_209 : lkp mT 11 209 = some (1, 158, 0) := by decide +kernel
theorem lm_11_212 : lkp mT 11 212 = some (1, 272, 0) := by decide +kernel
theorem lm_11_213 : lkp mT 11 213 = some (0, 308, 3) := by decide +kernel
theorem lm_11_215 : lkp mT 11 215 = some (1, 264, 1) := by decide +kernel
theorem lm_11_216 : lkp mT 11 216 = some (1, 160, 0) := by decide +kernel
theorem lm_11_219 : lkp mT 11 219 = some (1, 268, 0) := by decide +kernel
theorem lm_11_220 : lkp mT 11 220 = some (1, 161, 0) := by decide +kernel
theorem lm_11_223 : lkp mT 11 223 = some (1, 265, 0) := by decide +kernel
theorem lm_11_224 : lkp mT 11 224 = some (1, 162, 2) := by decide +kernel
theorem lm_11_227 : lkp mT 11 227 = some (1, 273, 2) := by decide +kernel
theorem lm_11_228 : lkp mT 11 228 = some (0, 309, 3) := by decide +kernel
theorem lm_11_230 : lkp mT 11 230 = some (1, 276, 1) := by decide +kernel
theorem lm_11_231 : lkp mT 11 231 = some (1, 164, 0) := by decide +kernel
theorem lm_11_234 : lkp mT 11 234 = some (1, 278, 0) := by decide +kernel
theorem lm_11_235 : lkp mT 11 235 = some (1, 165, 0) := by decide +kernel
theorem lm_11_238 : lkp mT 11 238 = some (1, 279, 0) := by decide +kernel
theorem lm_11_239 : lkp mT 11 239 = some (0, 310, 3) := by decide +kernel
theorem lm_11_241 : lkp mT 11 241 = some (1, 282, 1) := by decide +kernel
theorem lm_11_242 : lkp mT 11 242 = some (0, 311, 5) := by decide +kernel
theorem lm_11_245 : lkp mT 11 245 = some (1, 285, 3) := by decide +kernel
theorem lm_11_246 : lkp mT 11 246 = some (1, 168, 0) := by decide +kernel
theorem lm_11_249 : lkp mT 11 249 = some (1, 287, 0) := by decide +kernel
theorem lm_11_250 : lkp mT 11 250 = some (1, 169, 0) := by decide +kernel
theorem lm_11_254 : lkp mT 11 254 = some (1, 288, 0) := by decide +kernel
theorem lc_5_9 : lkp cT 5 9 = some 0 := by decide +kernel
theorem lc_5_28 : lkp cT 5 28 = some 6 := by decide +kernel
theorem lc_7_27 : lkp cT 7 27 = some 4 := by decide +kernel
theorem lc_8_29 : lkp cT 8 29 = some 6 := by decide +kernel
theorem lc_9_24 : lkp cT 9 24 = some 7 := by decide +kernel
theorem lc_9_31 : lkp cT 9 31 = some 3 := by decide +kernel
theorem lc_9_43 : lkp cT 9 43 = some 5 := by decide +kernel
theorem lc_9_55 : lkp cT 9 55 = some 8 := by decide +kernel
theorem lc_9_68 : lkp cT 9 68 = some 2 := by decide +kernel
theorem lc_9_77 : lkp cT 9 77 = some 1 := by decide +kernel
theorem lc_9_88 : lkp cT 9 88 = some 100 := by decide +kernel
theorem lc_9_157 : lkp cT 9 157 = some 101 := by decide +kernel
theorem lc_10_9 : lkp cT 10 9 = some 200 := by decide +kernel
theorem lc_11_8 : lkp cT 11 8 = some 9 := by decide +kernel
theorem lc_11_86 : lkp cT 11 86 = some 10 := by decide +kernel
theorem li_8_109 : lkp kI 8 109 = some (1000000) := by decide +kernel
theorem li_8_178 : lkp kI 8 178 = some (1103515245) := by decide +kernel
theorem li_10_182 : lkp kI 10 182 = some (100000) := by decide +kernel
theorem li_10_465 : lkp kI 10 465 = some (1103515245) := by decide +kernel
theorem li_26_265 : lkp kI 26 265 = some (1431655765) := by decide +kernel
theorem li_26_266 : lkp kI 26 266 = some (858993459) := by decide +kernel
theorem li_26_267 : lkp kI 26 267 = some (252645135) := by decide +kernel
theorem lj_10_345 : lkp kJ 10 345 = some (4) := by decide +kernel
theorem lj_10_367 : lkp kJ 10 367 = some (-9) := by decide +kernel
theorem lj_10_369 : lkp kJ 10 369 = some (9) := by decide +kernel
theorem lj_10_384 : lkp kJ 10 384 = some (30) := by decide +kernel
theorem lj_10_422 : lkp kJ 10 422 = some (10) := by decide +kernel
theorem lj_10_427 : lkp kJ 10 427 = some (99) := by decide +kernel
theorem lj_10_435 : lkp kJ 10 435 = some (999) := by decide +kernel
theorem lj_10_440 : lkp kJ 10 440 = some (-99) := by decide +kernel
theorem lj_10_448 : lkp kJ 10 448 = some (2) := by decide +kernel
theorem lj_10_469 : lkp kJ 10 469 = some (40) := by decide +kernel
theorem li_3_71 : lkp kI 3 71 = none := by decide +kernel
theorem ls_3_71 : lkp kS 3 71 = some 6 := by decide +kernel
theorem li_3_80 : lkp kI 3 80 = none := by decide +kernel
theorem ls_3_80 : lkp kS 3 80 = some 7 := by decide +kernel
theorem li_3_85 : lkp kI 3 85 = none := by decide +kernel
theorem ls_3_85 : lkp kS 3 85 = some 8 := by decide +kernel
theorem li_3_135 : lkp kI 3 135 = none := by decide +kernel
theorem ls_3_135 : lkp kS 3 135 = some 17 := by decide +kernel
theorem li_3_144 : lkp kI 3 144 = none := by decide +kernel
theorem ls_3_144 : lkp kS 3 144 = some 16 := by decide +kernel
theorem li_3_145 : lkp kI 3 145 = none := by decide +kernel
theorem ls_3_145 : lkp kS 3 145 = some 9 := by decide +kernel
theorem li_3_167 : lkp kI 3 167 = none := by decide +kernel
theorem ls_3_167 : lkp kS 3 167 = some 2 := by decide +kernel
theorem li_3_169 : lkp kI 3 169 = none := by decide +kernel
theorem ls_3_169 : lkp kS 3 169 = some 3 := by decide +kernel
theorem li_3_171 : lkp kI 3 171 = none := by decide +kernel
theorem ls_3_171 : lkp kS 3 171 = some 4 := by decide +kernel
theorem li_3_173 : lkp kI 3 173 = none := by decide +kernel
theorem ls_3_173 : lkp kS 3 173 = some 5 := by decide +kernel
theorem li_3_175 : lkp kI 3 175 = none := by decide +kernel
theorem ls_3_175 : lkp kS 3 175 = some 10 := by decide +kernel
theorem li_3_177 : lkp kI 3 177 = none := by decide +kernel
theorem ls_3_177 : lkp kS 3 177 = some 11 := by decide +kernel
theorem li_3_178 : lkp kI 3 178 = none := by decide +kernel
theorem ls_3_178 : lkp kS 3 178 = some 12 := by decide +kernel
theorem li_3_180 : lkp kI 3 180 = none := by decide +kernel
theorem ls_3_180 : lkp kS 3 180 = some 13 := by decide +kernel
theorem li_3_181 : lkp kI 3 181 = none := by decide +kernel
theorem ls_3_181 : lkp kS 3 181 = some 14 := by decide +kernel
theorem li_3_183 : lkp kI 3 183 = none := by decide +kernel
theorem ls_3_183 : lkp kS 3 183 = some 15 := by decide +kernel
theorem li_3_199 : lkp kI 3 199 = none := by decide +kernel
theorem ls_3_199 : lkp kS 3 199 = some 1 := by decide +kernel
theorem li_9_90 : lkp kI 9 90 = none := by decide +kernel
theorem ls_9_90 : lkp kS 9 90 = some 0 := by decide +kernel
theorem li_9_159 : lkp kI 9 159 = none := by decide +kernel
theorem ls_9_159 : lkp kS 9 159 = some 18 := by decide +kernel
theorem li_9_190 : lkp kI 9 190 = none := by decide +kernel
theorem ls_9_190 : lkp kS 9 190 = some 20 := by decide +kernel
theorem li_9_214 : lkp kI 9 214 = none := by decide +kernel
theorem ls_9_214 : lkp kS 9 214 = some 22 := by decide +kernel
theorem li_9_254 : lkp kI 9 254 = none := by decide +kernel
theorem ls_9_254 : lkp kS 9 254 = some 23 := by decide +kernel
theorem li_9_267 : lkp kI 9 267 = none := by decide +kernel
theorem ls_9_267 : lkp kS 9 267 = some 24 := by decide +kernel
theorem li_9_285 : lkp kI 9 285 = none := by decide +kernel
theorem ls_9_285 : lkp kS 9 285 = some 25 := by decide +kernel
theorem li_9_293 : lkp kI 9 293 = none := by decide +kernel
theorem ls_9_293 : lkp kS 9 293 = some 27 := by decide +kernel
theorem li_9_307 : lkp kI 9 307 = none := by decide +kernel
theorem ls_9_307 : lkp kS 9 307 = some 28 := by decide +kernel
theorem li_9_321 : lkp kI 9 321 = none := by decide +kernel
theorem ls_9_321 : lkp kS 9 321 = some 29 := by decide +kernel
theorem li_9_344 : lkp kI 9 344 = none := by decide +kernel
theorem ls_9_344 : lkp kS 9 344 = some 30 := by decide +kernel
theorem li_9_349 : lkp kI 9 349 = none := by decide +kernel
theorem ls_9_349 : lkp kS 9 349 = some 31 := by decide +kernel
theorem li_9_360 : lkp kI 9 360 = none := by decide +kernel
theorem ls_9_360 : lkp kS 9 360 = some 32 := by decide +kernel
theorem li_9_362 : lkp kI 9 362 = none := by decide +kernel
theorem ls_9_362 : lkp kS 9 362 = some 33 := by decide +kernel
theorem li_9_380 : lkp kI 9 380 = none := by decide +kernel
theorem ls_9_380 : lkp kS 9 380 = some 19 := by decide +kernel
theorem li_9_382 : lkp kI 9 382 = none := by decide +kernel
theorem ls_9_382 : lkp kS 9 382 = some 26 := by decide +kernel
theorem li_9_384 : lkp kI 9 384 = none := by decide +kernel
theorem ls_9_384 : lkp kS 9 384 = some 21 := by decide +kernel
theorem li_10_11 : lkp kI 10 11 = none := by decide +kernel
theorem ls_10_11 : lkp kS 10 11 = some 2 := by decide +kernel
theorem li_10_13 : lkp kI 10 13 = none := by decide +kernel
theorem ls_10_13 : lkp kS 10 13 = some 3 := by decide +kernel
theorem li_10_15 : lkp kI 10 15 = none := by decide +kernel
theorem ls_10_15 : lkp kS 10 15 = some 4 := by decide +kernel
theorem li_10_17 : lkp kI 10 17 = none := by decide +kernel
theorem ls_10_17 : lkp kS 10 17 = some 5 := by decide +kernel
theorem li_10_23 : lkp kI 10 23 = none := by decide +kernel
theorem ls_10_23 : lkp kS 10 23 = some 10 := by decide +kernel
theorem li_10_25 : lkp kI 10 25 = none := by decide +kernel
theorem ls_10_25 : lkp kS 10 25 = some 11 := by decide +kernel
theorem li_10_27 : lkp kI 10 27 = none := by decide +kernel
theorem ls_10_27 : lkp kS 10 27 = some 12 := by decide +kernel
theorem li_10_29 : lkp kI 10 29 = none := by decide +kernel
theorem ls_10_29 : lkp kS 10 29 = some 13 := by decide +kernel
theorem li_10_31 : lkp kI 10 31 = none := by decide +kernel
theorem ls_10_31 : lkp kS 10 31 = some 14 := by decide +kernel
theorem li_10_33 : lkp kI 10 33 = none := by decide +kernel
theorem ls_10_33 : lkp kS 10 33 = some 15 := by decide +kernel
theorem li_10_245 : lkp kI 10 245 = none := by decide +kernel
theorem ls_10_245 : lkp kS 10 245 = some 9 := by decide +kernel
theorem li_10_253 : lkp kI 10 253 = none := by decide +kernel
theorem ls_10_253 : lkp kS 10 253 = some 16 := by decide +kernel
theorem li_10_258 : lkp kI 10 258 = none := by decide +kernel
theorem ls_10_258 : lkp kS 10 258 = some 17 := by decide +kernel
theorem li_10_260 : lkp kI 10 260 = none := by decide +kernel
theorem ls_10_260 : lkp kS 10 260 = some 6 := by decide +kernel
theorem li_10_262 : lkp kI 10 262 = none := by decide +kernel
theorem ls_10_262 : lkp kS 10 262 = some 7 := by decide +kernel
theorem li_10_264 : lkp kI 10 264 = none := by decide +kernel
theorem ls_10_264 : lkp kS 10 264 = some 8 := by decide +kernel
