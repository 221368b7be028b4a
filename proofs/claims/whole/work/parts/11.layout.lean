/-! LAYOUT: the shapes and references of all things behind the two constructors (they never change again) (written by program) -/
def SL : List (Nat × Nat) := [(0, 0), (0, 0), (10, 0), (0, 0), (20, 16), (20, 16), (20, 6), (1, 0), (20, 6), (20, 3001), (35, 3), (39, 3), (36, 3), (7, 0), (1, 0), (20, 6), (20, 12001), (20, 6000), (20, 12), (5, 0), (20, 420), (20, 2), (20, 2), (20, 15000), (20, 3000), (9, 0), (20, 15000), (21, 24112), (20, 8), (6, 0), (21, 3198), (20, 15000), (20, 2322), (20, 2), (20, 2), (5, 0), (20, 420), (20, 2), (20, 2), (20, 15000), (20, 3000), (9, 0), (20, 15000), (21, 24112), (20, 8), (6, 0), (21, 3198), (20, 15000), (20, 2322), (20, 2), (20, 2), (5, 0), (20, 420), (20, 2), (20, 2), (20, 15000), (20, 3000), (9, 0), (20, 15000), (21, 24112), (20, 8), (6, 0), (21, 3198), (20, 15000), (20, 2322), (20, 2), (20, 2), (8, 0), (21, 48128), (21, 188), (20, 7), (3, 0), (21, 12032), (22, 64), (4, 0), (20, 300), (20, 300), (4, 0), (20, 300), (20, 300), (4, 0), (20, 300), (20, 300), (2, 0), (20, 8192), (20, 9), (20, 3), (11, 0), (20, 16), (20, 16), (20, 6), (20, 6), (20, 6), (22, 39013), (22, 156013), (20, 3), (20, 180), (20, 180), (20, 180), (20, 180), (20, 180), (20, 180), (20, 180), (20, 3), (22, 3), (22, 3), (20, 3), (20, 6), (20, 6), (20, 3), (20, 3), (20, 9000), (20, 9000), (20, 9000), (20, 9000), (20, 9000), (20, 9000), (20, 3), (20, 9000), (20, 3), (20, 3), (20, 3), (20, 3), (22, 3), (22, 3), (20, 9000), (20, 9000), (20, 9000), (20, 9000), (20, 9000), (20, 9000), (21, 81378), (20, 16), (20, 3), (21, 48128), (20, 188), (20, 7), (21, 12032), (22, 64), (20, 300), (20, 300), (20, 300), (20, 300), (20, 300), (20, 9), (20, 8192), (20, 3), (20, 3), (20, 3), (20, 3), (21, 9600), (20, 3), (20, 3), (22, 9000), (20, 9000), (20, 9000), (20, 9000), (20, 9000), (20, 3), (20, 9000), (20, 9000), (20, 3), (20, 2700), (20, 2700), (20, 2700), (20, 6), (20, 6), (20, 12), (20, 3000), (20, 3000)]
def QL : List (List Nat) := [[], [], [0, 4, 11, 12, 68, 72, 13, 84, 14, 0, 0], [5, 6, 0, 7, 8], [], [], [], [9, 0, 10], [], [], [20, 36, 52], [26, 42, 58], [30, 46, 62], [15, 18, 0, 19, 0, 0, 0], [16, 0, 17], [], [], [], [], [4, 21, 0, 0, 0, 0, 0, 0, 22, 23, 0, 0, 24, 0, 25, 0], [], [], [], [], [], [0, 0, 27, 28, 29, 0, 0, 0, 0, 0, 0, 0, 0, 0, 0], [], [], [], [0, 0, 0, 0, 31, 0, 0, 0, 32, 33, 0, 34, 35], [], [], [], [], [], [4, 37, 0, 0, 0, 0, 0, 0, 38, 39, 0, 0, 40, 0, 41, 0], [], [], [], [], [], [0, 0, 43, 44, 45, 0, 0, 0, 0, 0, 0, 0, 0, 0, 0], [], [], [], [0, 0, 0, 0, 47, 0, 0, 0, 48, 49, 0, 50, 51], [], [], [], [], [], [4, 53, 0, 0, 0, 0, 0, 0, 54, 55, 0, 0, 56, 0, 57, 0], [], [], [], [], [], [0, 0, 59, 60, 61, 0, 0, 0, 0, 0, 0, 0, 0, 0, 0], [], [], [], [0, 0, 0, 0, 63, 0, 0, 0, 64, 65, 0, 66, 67], [], [], [], [], [], [0, 0, 12, 69, 70, 71, 0, 0, 0], [], [], [], [69, 73, 74, 75, 78, 81, 0, 0, 0, 0, 0, 0, 0, 0, 0, 0], [], [], [76, 77, 0], [], [], [79, 80, 0], [], [], [82, 83, 0], [], [], [0, 0, 13, 73, 85, 86, 0, 0, 0, 87, 0, 0, 0], [], [], [], [0, 0, 0, 0, 89, 90, 0, 91, 92, 0, 93, 94, 95, 96, 97, 98, 99, 100, 101, 102, 103, 104, 105, 106, 107, 108, 109, 110, 111, 112, 113, 114, 115, 116, 117, 118, 119, 120, 121, 122, 123, 0, 124, 125, 0, 126, 127, 128, 129, 130, 131, 132, 133, 134, 0, 135, 136, 137, 0, 0, 0, 0, 0, 0, 0, 0, 138, 139, 0, 0, 0, 140, 141, 0, 142, 143, 144, 145, 0, 0, 146, 147, 148, 149, 150, 151, 152, 153, 154, 155, 156, 157, 158, 159, 0, 160, 161, 162, 163, 164, 165, 166, 167, 0, 168, 0, 0, 0, 169, 170], [], [], [], [], [], [], [], [], [], [], [], [], [], [], [], [], [], [], [], [], [], [], [], [], [], [], [], [], [], [], [], [], [], [], [], [], [], [], [], [], [], [], [], [], [], [], [], [], [], [], [], [], [], [], [], [], [], [], [], [], [], [], [], [], [], [], [], [], [], [], [], [], [], [], [], [], [], [], [], [], [], []]
def S0 (w : Nat) : Nat × Nat := SL.getD w (0, 0)
def Q0 (w j : Nat) : Nat := (QL.getD w []).getD j 0
abbrev Ih : Type := Nat → Nat → Int32
abbrev Jh : Type := Nat → Nat → Int64
def hp (I : Ih) (J : Jh) : Hp := (S0, I, J, Q0, 170)
def sA (a kd n : Nat) : Prop := 2 ≤ a ∧ a < 170 ∧ S0 a = (kd, n)
def sO (v ci : Nat) : Prop := 2 ≤ v ∧ v < 170 ∧ (S0 v).1 = ci ∧ ci < 12
theorem oS_2 : sO 2 10 := ⟨by decide, by decide, rfl, by decide⟩
theorem qS_2_1 : Q0 2 1 = 3 + 1 := rfl
theorem qS_2_2 : Q0 2 2 = 10 + 1 := rfl
theorem qS_2_3 : Q0 2 3 = 11 + 1 := rfl
theorem qS_2_4 : Q0 2 4 = 67 + 1 := rfl
theorem qS_2_5 : Q0 2 5 = 71 + 1 := rfl
theorem qS_2_6 : Q0 2 6 = 12 + 1 := rfl
theorem qS_2_7 : Q0 2 7 = 83 + 1 := rfl
theorem qS_2_8 : Q0 2 8 = 13 + 1 := rfl
theorem oS_3 : sO 3 0 := ⟨by decide, by decide, rfl, by decide⟩
theorem qS_3_0 : Q0 3 0 = 4 + 1 := rfl
theorem qS_3_1 : Q0 3 1 = 5 + 1 := rfl
theorem qS_3_3 : Q0 3 3 = 6 + 1 := rfl
theorem qS_3_4 : Q0 3 4 = 7 + 1 := rfl
theorem aS_4 : sA 4 20 16 := ⟨by decide, by decide, rfl⟩
theorem aS_5 : sA 5 20 16 := ⟨by decide, by decide, rfl⟩
theorem aS_6 : sA 6 20 6 := ⟨by decide, by decide, rfl⟩
theorem oS_7 : sO 7 1 := ⟨by decide, by decide, rfl, by decide⟩
theorem qS_7_0 : Q0 7 0 = 8 + 1 := rfl
theorem qS_7_2 : Q0 7 2 = 9 + 1 := rfl
theorem aS_8 : sA 8 20 6 := ⟨by decide, by decide, rfl⟩
theorem aS_9 : sA 9 20 3001 := ⟨by decide, by decide, rfl⟩
theorem aS_10 : sA 10 35 3 := ⟨by decide, by decide, rfl⟩
theorem aS_11 : sA 11 39 3 := ⟨by decide, by decide, rfl⟩
theorem aS_12 : sA 12 36 3 := ⟨by decide, by decide, rfl⟩
theorem oS_13 : sO 13 7 := ⟨by decide, by decide, rfl, by decide⟩
theorem qS_13_0 : Q0 13 0 = 14 + 1 := rfl
theorem qS_13_1 : Q0 13 1 = 17 + 1 := rfl
theorem qS_13_3 : Q0 13 3 = 18 + 1 := rfl
theorem oS_14 : sO 14 1 := ⟨by decide, by decide, rfl, by decide⟩
theorem qS_14_0 : Q0 14 0 = 15 + 1 := rfl
theorem qS_14_2 : Q0 14 2 = 16 + 1 := rfl
theorem aS_15 : sA 15 20 6 := ⟨by decide, by decide, rfl⟩
theorem aS_16 : sA 16 20 12001 := ⟨by decide, by decide, rfl⟩
theorem aS_17 : sA 17 20 6000 := ⟨by decide, by decide, rfl⟩
theorem aS_18 : sA 18 20 12 := ⟨by decide, by decide, rfl⟩
theorem oS_19 : sO 19 5 := ⟨by decide, by decide, rfl, by decide⟩
theorem qS_19_0 : Q0 19 0 = 3 + 1 := rfl
theorem qS_19_1 : Q0 19 1 = 20 + 1 := rfl
theorem qS_19_8 : Q0 19 8 = 21 + 1 := rfl
theorem qS_19_9 : Q0 19 9 = 22 + 1 := rfl
theorem qS_19_12 : Q0 19 12 = 23 + 1 := rfl
theorem qS_19_14 : Q0 19 14 = 24 + 1 := rfl
theorem aS_20 : sA 20 20 420 := ⟨by decide, by decide, rfl⟩
theorem aS_21 : sA 21 20 2 := ⟨by decide, by decide, rfl⟩
theorem aS_22 : sA 22 20 2 := ⟨by decide, by decide, rfl⟩
theorem aS_23 : sA 23 20 15000 := ⟨by decide, by decide, rfl⟩
theorem aS_24 : sA 24 20 3000 := ⟨by decide, by decide, rfl⟩
theorem oS_25 : sO 25 9 := ⟨by decide, by decide, rfl, by decide⟩
theorem qS_25_2 : Q0 25 2 = 26 + 1 := rfl
theorem qS_25_3 : Q0 25 3 = 27 + 1 := rfl
theorem qS_25_4 : Q0 25 4 = 28 + 1 := rfl
theorem aS_26 : sA 26 20 15000 := ⟨by decide, by decide, rfl⟩
theorem aS_27 : sA 27 21 24112 := ⟨by decide, by decide, rfl⟩
theorem aS_28 : sA 28 20 8 := ⟨by decide, by decide, rfl⟩
theorem oS_29 : sO 29 6 := ⟨by decide, by decide, rfl, by decide⟩
theorem qS_29_4 : Q0 29 4 = 30 + 1 := rfl
theorem qS_29_8 : Q0 29 8 = 31 + 1 := rfl
theorem qS_29_9 : Q0 29 9 = 32 + 1 := rfl
theorem qS_29_11 : Q0 29 11 = 33 + 1 := rfl
theorem qS_29_12 : Q0 29 12 = 34 + 1 := rfl
theorem aS_30 : sA 30 21 3198 := ⟨by decide, by decide, rfl⟩
theorem aS_31 : sA 31 20 15000 := ⟨by decide, by decide, rfl⟩
theorem aS_32 : sA 32 20 2322 := ⟨by decide, by decide, rfl⟩
theorem aS_33 : sA 33 20 2 := ⟨by decide, by decide, rfl⟩
theorem aS_34 : sA 34 20 2 := ⟨by decide, by decide, rfl⟩
theorem oS_35 : sO 35 5 := ⟨by decide, by decide, rfl, by decide⟩
theorem qS_35_0 : Q0 35 0 = 3 + 1 := rfl
theorem qS_35_1 : Q0 35 1 = 36 + 1 := rfl
theorem qS_35_8 : Q0 35 8 = 37 + 1 := rfl
theorem qS_35_9 : Q0 35 9 = 38 + 1 := rfl
theorem qS_35_12 : Q0 35 12 = 39 + 1 := rfl
theorem qS_35_14 : Q0 35 14 = 40 + 1 := rfl
theorem aS_36 : sA 36 20 420 := ⟨by decide, by decide, rfl⟩
theorem aS_37 : sA 37 20 2 := ⟨by decide, by decide, rfl⟩
theorem aS_38 : sA 38 20 2 := ⟨by decide, by decide, rfl⟩
theorem aS_39 : sA 39 20 15000 := ⟨by decide, by decide, rfl⟩
theorem aS_40 : sA 40 20 3000 := ⟨by decide, by decide, rfl⟩
theorem oS_41 : sO 41 9 := ⟨by decide, by decide, rfl, by decide⟩
theorem qS_41_2 : Q0 41 2 = 42 + 1 := rfl
theorem qS_41_3 : Q0 41 3 = 43 + 1 := rfl
theorem qS_41_4 : Q0 41 4 = 44 + 1 := rfl
theorem aS_42 : sA 42 20 15000 := ⟨by decide, by decide, rfl⟩
theorem aS_43 : sA 43 21 24112 := ⟨by decide, by decide, rfl⟩
theorem aS_44 : sA 44 20 8 := ⟨by decide, by decide, rfl⟩
theorem oS_45 : sO 45 6 := ⟨by decide, by decide, rfl, by decide⟩
theorem qS_45_4 : Q0 45 4 = 46 + 1 := rfl
theorem qS_45_8 : Q0 45 8 = 47 + 1 := rfl
theorem qS_45_9 : Q0 45 9 = 48 + 1 := rfl
theorem qS_45_11 : Q0 45 11 = 49 + 1 := rfl
theorem qS_45_12 : Q0 45 12 = 50 + 1 := rfl
theorem aS_46 : sA 46 21 3198 := ⟨by decide, by decide, rfl⟩
theorem aS_47 : sA 47 20 15000 := ⟨by decide, by decide, rfl⟩
theorem aS_48 : sA 48 20 2322 := ⟨by decide, by decide, rfl⟩
theorem aS_49 : sA 49 20 2 := ⟨by decide, by decide, rfl⟩
theorem aS_50 : sA 50 20 2 := ⟨by decide, by decide, rfl⟩
theorem oS_51 : sO 51 5 := ⟨by decide, by decide, rfl, by decide⟩
theorem qS_51_0 : Q0 51 0 = 3 + 1 := rfl
theorem qS_51_1 : Q0 51 1 = 52 + 1 := rfl
theorem qS_51_8 : Q0 51 8 = 53 + 1 := rfl
theorem qS_51_9 : Q0 51 9 = 54 + 1 := rfl
theorem qS_51_12 : Q0 51 12 = 55 + 1 := rfl
theorem qS_51_14 : Q0 51 14 = 56 + 1 := rfl
theorem aS_52 : sA 52 20 420 := ⟨by decide, by decide, rfl⟩
theorem aS_53 : sA 53 20 2 := ⟨by decide, by decide, rfl⟩
theorem aS_54 : sA 54 20 2 := ⟨by decide, by decide, rfl⟩
theorem aS_55 : sA 55 20 15000 := ⟨by decide, by decide, rfl⟩
theorem aS_56 : sA 56 20 3000 := ⟨by decide, by decide, rfl⟩
theorem oS_57 : sO 57 9 := ⟨by decide, by decide, rfl, by decide⟩
theorem qS_57_2 : Q0 57 2 = 58 + 1 := rfl
theorem qS_57_3 : Q0 57 3 = 59 + 1 := rfl
theorem qS_57_4 : Q0 57 4 = 60 + 1 := rfl
theorem aS_58 : sA 58 20 15000 := ⟨by decide, by decide, rfl⟩
theorem aS_59 : sA 59 21 24112 := ⟨by decide, by decide, rfl⟩
theorem aS_60 : sA 60 20 8 := ⟨by decide, by decide, rfl⟩
theorem oS_61 : sO 61 6 := ⟨by decide, by decide, rfl, by decide⟩
theorem qS_61_4 : Q0 61 4 = 62 + 1 := rfl
theorem qS_61_8 : Q0 61 8 = 63 + 1 := rfl
theorem qS_61_9 : Q0 61 9 = 64 + 1 := rfl
theorem qS_61_11 : Q0 61 11 = 65 + 1 := rfl
theorem qS_61_12 : Q0 61 12 = 66 + 1 := rfl
theorem aS_62 : sA 62 21 3198 := ⟨by decide, by decide, rfl⟩
theorem aS_63 : sA 63 20 15000 := ⟨by decide, by decide, rfl⟩
theorem aS_64 : sA 64 20 2322 := ⟨by decide, by decide, rfl⟩
theorem aS_65 : sA 65 20 2 := ⟨by decide, by decide, rfl⟩
theorem aS_66 : sA 66 20 2 := ⟨by decide, by decide, rfl⟩
theorem oS_67 : sO 67 8 := ⟨by decide, by decide, rfl, by decide⟩
theorem qS_67_2 : Q0 67 2 = 11 + 1 := rfl
theorem qS_67_3 : Q0 67 3 = 68 + 1 := rfl
theorem qS_67_4 : Q0 67 4 = 69 + 1 := rfl
theorem qS_67_5 : Q0 67 5 = 70 + 1 := rfl
theorem aS_68 : sA 68 21 48128 := ⟨by decide, by decide, rfl⟩
theorem aS_69 : sA 69 21 188 := ⟨by decide, by decide, rfl⟩
theorem aS_70 : sA 70 20 7 := ⟨by decide, by decide, rfl⟩
theorem oS_71 : sO 71 3 := ⟨by decide, by decide, rfl, by decide⟩
theorem qS_71_0 : Q0 71 0 = 68 + 1 := rfl
theorem qS_71_1 : Q0 71 1 = 72 + 1 := rfl
theorem qS_71_2 : Q0 71 2 = 73 + 1 := rfl
theorem qS_71_3 : Q0 71 3 = 74 + 1 := rfl
theorem qS_71_4 : Q0 71 4 = 77 + 1 := rfl
theorem qS_71_5 : Q0 71 5 = 80 + 1 := rfl
theorem aS_72 : sA 72 21 12032 := ⟨by decide, by decide, rfl⟩
theorem aS_73 : sA 73 22 64 := ⟨by decide, by decide, rfl⟩
theorem oS_74 : sO 74 4 := ⟨by decide, by decide, rfl, by decide⟩
theorem qS_74_0 : Q0 74 0 = 75 + 1 := rfl
theorem qS_74_1 : Q0 74 1 = 76 + 1 := rfl
theorem aS_75 : sA 75 20 300 := ⟨by decide, by decide, rfl⟩
theorem aS_76 : sA 76 20 300 := ⟨by decide, by decide, rfl⟩
theorem oS_77 : sO 77 4 := ⟨by decide, by decide, rfl, by decide⟩
theorem qS_77_0 : Q0 77 0 = 78 + 1 := rfl
theorem qS_77_1 : Q0 77 1 = 79 + 1 := rfl
theorem aS_78 : sA 78 20 300 := ⟨by decide, by decide, rfl⟩
theorem aS_79 : sA 79 20 300 := ⟨by decide, by decide, rfl⟩
theorem oS_80 : sO 80 4 := ⟨by decide, by decide, rfl, by decide⟩
theorem qS_80_0 : Q0 80 0 = 81 + 1 := rfl
theorem qS_80_1 : Q0 80 1 = 82 + 1 := rfl
theorem aS_81 : sA 81 20 300 := ⟨by decide, by decide, rfl⟩
theorem aS_82 : sA 82 20 300 := ⟨by decide, by decide, rfl⟩
theorem oS_83 : sO 83 2 := ⟨by decide, by decide, rfl, by decide⟩
theorem qS_83_2 : Q0 83 2 = 12 + 1 := rfl
theorem qS_83_3 : Q0 83 3 = 72 + 1 := rfl
theorem qS_83_4 : Q0 83 4 = 84 + 1 := rfl
theorem qS_83_5 : Q0 83 5 = 85 + 1 := rfl
theorem qS_83_9 : Q0 83 9 = 86 + 1 := rfl
theorem aS_84 : sA 84 20 8192 := ⟨by decide, by decide, rfl⟩
theorem aS_85 : sA 85 20 9 := ⟨by decide, by decide, rfl⟩
theorem aS_86 : sA 86 20 3 := ⟨by decide, by decide, rfl⟩
theorem oS_87 : sO 87 11 := ⟨by decide, by decide, rfl, by decide⟩
theorem qS_87_4 : Q0 87 4 = 88 + 1 := rfl
theorem qS_87_5 : Q0 87 5 = 89 + 1 := rfl
theorem qS_87_7 : Q0 87 7 = 90 + 1 := rfl
theorem qS_87_8 : Q0 87 8 = 91 + 1 := rfl
theorem qS_87_10 : Q0 87 10 = 92 + 1 := rfl
theorem qS_87_11 : Q0 87 11 = 93 + 1 := rfl
theorem qS_87_12 : Q0 87 12 = 94 + 1 := rfl
theorem qS_87_13 : Q0 87 13 = 95 + 1 := rfl
theorem qS_87_14 : Q0 87 14 = 96 + 1 := rfl
theorem qS_87_15 : Q0 87 15 = 97 + 1 := rfl
theorem qS_87_16 : Q0 87 16 = 98 + 1 := rfl
theorem qS_87_17 : Q0 87 17 = 99 + 1 := rfl
theorem qS_87_18 : Q0 87 18 = 100 + 1 := rfl
theorem qS_87_19 : Q0 87 19 = 101 + 1 := rfl
theorem qS_87_20 : Q0 87 20 = 102 + 1 := rfl
theorem qS_87_21 : Q0 87 21 = 103 + 1 := rfl
theorem qS_87_22 : Q0 87 22 = 104 + 1 := rfl
theorem qS_87_23 : Q0 87 23 = 105 + 1 := rfl
theorem qS_87_24 : Q0 87 24 = 106 + 1 := rfl
theorem qS_87_25 : Q0 87 25 = 107 + 1 := rfl
theorem qS_87_26 : Q0 87 26 = 108 + 1 := rfl
theorem qS_87_27 : Q0 87 27 = 109 + 1 := rfl
theorem qS_87_28 : Q0 87 28 = 110 + 1 := rfl
theorem qS_87_29 : Q0 87 29 = 111 + 1 := rfl
theorem qS_87_30 : Q0 87 30 = 112 + 1 := rfl
theorem qS_87_31 : Q0 87 31 = 113 + 1 := rfl
theorem qS_87_32 : Q0 87 32 = 114 + 1 := rfl
theorem qS_87_33 : Q0 87 33 = 115 + 1 := rfl
theorem qS_87_34 : Q0 87 34 = 116 + 1 := rfl
theorem qS_87_35 : Q0 87 35 = 117 + 1 := rfl
theorem qS_87_36 : Q0 87 36 = 118 + 1 := rfl
theorem qS_87_37 : Q0 87 37 = 119 + 1 := rfl
theorem qS_87_38 : Q0 87 38 = 120 + 1 := rfl
theorem qS_87_39 : Q0 87 39 = 121 + 1 := rfl
theorem qS_87_40 : Q0 87 40 = 122 + 1 := rfl
theorem qS_87_42 : Q0 87 42 = 123 + 1 := rfl
theorem qS_87_43 : Q0 87 43 = 124 + 1 := rfl
theorem qS_87_45 : Q0 87 45 = 125 + 1 := rfl
theorem qS_87_46 : Q0 87 46 = 126 + 1 := rfl
theorem qS_87_47 : Q0 87 47 = 127 + 1 := rfl
theorem qS_87_48 : Q0 87 48 = 128 + 1 := rfl
theorem qS_87_49 : Q0 87 49 = 129 + 1 := rfl
theorem qS_87_50 : Q0 87 50 = 130 + 1 := rfl
theorem qS_87_51 : Q0 87 51 = 131 + 1 := rfl
theorem qS_87_52 : Q0 87 52 = 132 + 1 := rfl
theorem qS_87_53 : Q0 87 53 = 133 + 1 := rfl
theorem qS_87_55 : Q0 87 55 = 134 + 1 := rfl
theorem qS_87_56 : Q0 87 56 = 135 + 1 := rfl
theorem qS_87_57 : Q0 87 57 = 136 + 1 := rfl
theorem qS_87_66 : Q0 87 66 = 137 + 1 := rfl
theorem qS_87_67 : Q0 87 67 = 138 + 1 := rfl
theorem qS_87_71 : Q0 87 71 = 139 + 1 := rfl
theorem qS_87_72 : Q0 87 72 = 140 + 1 := rfl
theorem qS_87_74 : Q0 87 74 = 141 + 1 := rfl
theorem qS_87_75 : Q0 87 75 = 142 + 1 := rfl
theorem qS_87_76 : Q0 87 76 = 143 + 1 := rfl
theorem qS_87_77 : Q0 87 77 = 144 + 1 := rfl
theorem qS_87_80 : Q0 87 80 = 145 + 1 := rfl
theorem qS_87_81 : Q0 87 81 = 146 + 1 := rfl
theorem qS_87_82 : Q0 87 82 = 147 + 1 := rfl
theorem qS_87_83 : Q0 87 83 = 148 + 1 := rfl
theorem qS_87_84 : Q0 87 84 = 149 + 1 := rfl
theorem qS_87_85 : Q0 87 85 = 150 + 1 := rfl
theorem qS_87_86 : Q0 87 86 = 151 + 1 := rfl
theorem qS_87_87 : Q0 87 87 = 152 + 1 := rfl
theorem qS_87_88 : Q0 87 88 = 153 + 1 := rfl
theorem qS_87_89 : Q0 87 89 = 154 + 1 := rfl
theorem qS_87_90 : Q0 87 90 = 155 + 1 := rfl
theorem qS_87_91 : Q0 87 91 = 156 + 1 := rfl
theorem qS_87_92 : Q0 87 92 = 157 + 1 := rfl
theorem qS_87_93 : Q0 87 93 = 158 + 1 := rfl
theorem qS_87_95 : Q0 87 95 = 159 + 1 := rfl
theorem qS_87_96 : Q0 87 96 = 160 + 1 := rfl
theorem qS_87_97 : Q0 87 97 = 161 + 1 := rfl
theorem qS_87_98 : Q0 87 98 = 162 + 1 := rfl
theorem qS_87_99 : Q0 87 99 = 163 + 1 := rfl
theorem qS_87_100 : Q0 87 100 = 164 + 1 := rfl
theorem qS_87_101 : Q0 87 101 = 165 + 1 := rfl
theorem qS_87_102 : Q0 87 102 = 166 + 1 := rfl
theorem qS_87_104 : Q0 87 104 = 167 + 1 := rfl
theorem qS_87_108 : Q0 87 108 = 168 + 1 := rfl
theorem qS_87_109 : Q0 87 109 = 169 + 1 := rfl
theorem aS_88 : sA 88 20 16 := ⟨by decide, by decide, rfl⟩
theorem aS_89 : sA 89 20 16 := ⟨by decide, by decide, rfl⟩
theorem aS_90 : sA 90 20 6 := ⟨by decide, by decide, rfl⟩
theorem aS_91 : sA 91 20 6 := ⟨by decide, by decide, rfl⟩
theorem aS_92 : sA 92 20 6 := ⟨by decide, by decide, rfl⟩
theorem aS_93 : sA 93 22 39013 := ⟨by decide, by decide, rfl⟩
theorem aS_94 : sA 94 22 156013 := ⟨by decide, by decide, rfl⟩
theorem aS_95 : sA 95 20 3 := ⟨by decide, by decide, rfl⟩
theorem aS_96 : sA 96 20 180 := ⟨by decide, by decide, rfl⟩
theorem aS_97 : sA 97 20 180 := ⟨by decide, by decide, rfl⟩
theorem aS_98 : sA 98 20 180 := ⟨by decide, by decide, rfl⟩
theorem aS_99 : sA 99 20 180 := ⟨by decide, by decide, rfl⟩
theorem aS_100 : sA 100 20 180 := ⟨by decide, by decide, rfl⟩
theorem aS_101 : sA 101 20 180 := ⟨by decide, by decide, rfl⟩
theorem aS_102 : sA 102 20 180 := ⟨by decide, by decide, rfl⟩
theorem aS_103 : sA 103 20 3 := ⟨by decide, by decide, rfl⟩
theorem aS_104 : sA 104 22 3 := ⟨by decide, by decide, rfl⟩
theorem aS_105 : sA 105 22 3 := ⟨by decide, by decide, rfl⟩
theorem aS_106 : sA 106 20 3 := ⟨by decide, by decide, rfl⟩
theorem aS_107 : sA 107 20 6 := ⟨by decide, by decide, rfl⟩
theorem aS_108 : sA 108 20 6 := ⟨by decide, by decide, rfl⟩
theorem aS_109 : sA 109 20 3 := ⟨by decide, by decide, rfl⟩
theorem aS_110 : sA 110 20 3 := ⟨by decide, by decide, rfl⟩
theorem aS_111 : sA 111 20 9000 := ⟨by decide, by decide, rfl⟩
theorem aS_112 : sA 112 20 9000 := ⟨by decide, by decide, rfl⟩
theorem aS_113 : sA 113 20 9000 := ⟨by decide, by decide, rfl⟩
theorem aS_114 : sA 114 20 9000 := ⟨by decide, by decide, rfl⟩
theorem aS_115 : sA 115 20 9000 := ⟨by decide, by decide, rfl⟩
theorem aS_116 : sA 116 20 9000 := ⟨by decide, by decide, rfl⟩
theorem aS_117 : sA 117 20 3 := ⟨by decide, by decide, rfl⟩
theorem aS_118 : sA 118 20 9000 := ⟨by decide, by decide, rfl⟩
theorem aS_119 : sA 119 20 3 := ⟨by decide, by decide, rfl⟩
theorem aS_120 : sA 120 20 3 := ⟨by decide, by decide, rfl⟩
theorem aS_121 : sA 121 20 3 := ⟨by decide, by decide, rfl⟩
theorem aS_122 : sA 122 20 3 := ⟨by decide, by decide, rfl⟩
theorem aS_123 : sA 123 22 3 := ⟨by decide, by decide, rfl⟩
theorem aS_124 : sA 124 22 3 := ⟨by decide, by decide, rfl⟩
theorem aS_125 : sA 125 20 9000 := ⟨by decide, by decide, rfl⟩
theorem aS_126 : sA 126 20 9000 := ⟨by decide, by decide, rfl⟩
theorem aS_127 : sA 127 20 9000 := ⟨by decide, by decide, rfl⟩
theorem aS_128 : sA 128 20 9000 := ⟨by decide, by decide, rfl⟩
theorem aS_129 : sA 129 20 9000 := ⟨by decide, by decide, rfl⟩
theorem aS_130 : sA 130 20 9000 := ⟨by decide, by decide, rfl⟩
theorem aS_131 : sA 131 21 81378 := ⟨by decide, by decide, rfl⟩
theorem aS_132 : sA 132 20 16 := ⟨by decide, by decide, rfl⟩
theorem aS_133 : sA 133 20 3 := ⟨by decide, by decide, rfl⟩
theorem aS_134 : sA 134 21 48128 := ⟨by decide, by decide, rfl⟩
theorem aS_135 : sA 135 20 188 := ⟨by decide, by decide, rfl⟩
theorem aS_136 : sA 136 20 7 := ⟨by decide, by decide, rfl⟩
theorem aS_137 : sA 137 21 12032 := ⟨by decide, by decide, rfl⟩
theorem aS_138 : sA 138 22 64 := ⟨by decide, by decide, rfl⟩
theorem aS_139 : sA 139 20 300 := ⟨by decide, by decide, rfl⟩
theorem aS_140 : sA 140 20 300 := ⟨by decide, by decide, rfl⟩
theorem aS_141 : sA 141 20 300 := ⟨by decide, by decide, rfl⟩
theorem aS_142 : sA 142 20 300 := ⟨by decide, by decide, rfl⟩
theorem aS_143 : sA 143 20 300 := ⟨by decide, by decide, rfl⟩
theorem aS_144 : sA 144 20 9 := ⟨by decide, by decide, rfl⟩
theorem aS_145 : sA 145 20 8192 := ⟨by decide, by decide, rfl⟩
theorem aS_146 : sA 146 20 3 := ⟨by decide, by decide, rfl⟩
theorem aS_147 : sA 147 20 3 := ⟨by decide, by decide, rfl⟩
theorem aS_148 : sA 148 20 3 := ⟨by decide, by decide, rfl⟩
theorem aS_149 : sA 149 20 3 := ⟨by decide, by decide, rfl⟩
theorem aS_150 : sA 150 21 9600 := ⟨by decide, by decide, rfl⟩
theorem aS_151 : sA 151 20 3 := ⟨by decide, by decide, rfl⟩
theorem aS_152 : sA 152 20 3 := ⟨by decide, by decide, rfl⟩
theorem aS_153 : sA 153 22 9000 := ⟨by decide, by decide, rfl⟩
theorem aS_154 : sA 154 20 9000 := ⟨by decide, by decide, rfl⟩
theorem aS_155 : sA 155 20 9000 := ⟨by decide, by decide, rfl⟩
theorem aS_156 : sA 156 20 9000 := ⟨by decide, by decide, rfl⟩
theorem aS_157 : sA 157 20 9000 := ⟨by decide, by decide, rfl⟩
theorem aS_158 : sA 158 20 3 := ⟨by decide, by decide, rfl⟩
theorem aS_159 : sA 159 20 9000 := ⟨by decide, by decide, rfl⟩
theorem aS_160 : sA 160 20 9000 := ⟨by decide, by decide, rfl⟩
theorem aS_161 : sA 161 20 3 := ⟨by decide, by decide, rfl⟩
theorem aS_162 : sA 162 20 2700 := ⟨by decide, by decide, rfl⟩
theorem aS_163 : sA 163 20 2700 := ⟨by decide, by decide, rfl⟩
theorem aS_164 : sA 164 20 2700 := ⟨by decide, by decide, rfl⟩
theorem aS_165 : sA 165 20 6 := ⟨by decide, by decide, rfl⟩
theorem aS_166 : sA 166 20 6 := ⟨by decide, by decide, rfl⟩
theorem aS_167 : sA 167 20 12 := ⟨by decide, by decide, rfl⟩
theorem aS_168 : sA 168 20 3000 := ⟨by decide, by decide, rfl⟩
theorem aS_169 : sA 169 20 3000 := ⟨by decide, by decide, rfl⟩
theorem oP {c : Nat} (hc : c < 3) : sO (19 + 16 * c) 5 := by rcases (show c = 0 ∨ c = 1 ∨ c = 2 by omega) with rfl | rfl | rfl <;> exact ⟨by decide, by decide, rfl, by decide⟩
theorem qP_0 {c : Nat} (hc : c < 3) : Q0 (19 + 16 * c) 0 = 3 + 1 := by rcases (show c = 0 ∨ c = 1 ∨ c = 2 by omega) with rfl | rfl | rfl <;> rfl
theorem qP_1 {c : Nat} (hc : c < 3) : Q0 (19 + 16 * c) 1 = 20 + 16 * c + 1 := by rcases (show c = 0 ∨ c = 1 ∨ c = 2 by omega) with rfl | rfl | rfl <;> rfl
theorem aP_1 {c : Nat} (hc : c < 3) : sA (20 + 16 * c) 20 420 := by rcases (show c = 0 ∨ c = 1 ∨ c = 2 by omega) with rfl | rfl | rfl <;> exact ⟨by decide, by decide, rfl⟩
theorem qP_8 {c : Nat} (hc : c < 3) : Q0 (19 + 16 * c) 8 = 21 + 16 * c + 1 := by rcases (show c = 0 ∨ c = 1 ∨ c = 2 by omega) with rfl | rfl | rfl <;> rfl
theorem aP_8 {c : Nat} (hc : c < 3) : sA (21 + 16 * c) 20 2 := by rcases (show c = 0 ∨ c = 1 ∨ c = 2 by omega) with rfl | rfl | rfl <;> exact ⟨by decide, by decide, rfl⟩
theorem qP_9 {c : Nat} (hc : c < 3) : Q0 (19 + 16 * c) 9 = 22 + 16 * c + 1 := by rcases (show c = 0 ∨ c = 1 ∨ c = 2 by omega) with rfl | rfl | rfl <;> rfl
theorem aP_9 {c : Nat} (hc : c < 3) : sA (22 + 16 * c) 20 2 := by rcases (show c = 0 ∨ c = 1 ∨ c = 2 by omega) with rfl | rfl | rfl <;> exact ⟨by decide, by decide, rfl⟩
theorem qP_12 {c : Nat} (hc : c < 3) : Q0 (19 + 16 * c) 12 = 23 + 16 * c + 1 := by rcases (show c = 0 ∨ c = 1 ∨ c = 2 by omega) with rfl | rfl | rfl <;> rfl
theorem aP_12 {c : Nat} (hc : c < 3) : sA (23 + 16 * c) 20 15000 := by rcases (show c = 0 ∨ c = 1 ∨ c = 2 by omega) with rfl | rfl | rfl <;> exact ⟨by decide, by decide, rfl⟩
theorem qP_14 {c : Nat} (hc : c < 3) : Q0 (19 + 16 * c) 14 = 24 + 16 * c + 1 := by rcases (show c = 0 ∨ c = 1 ∨ c = 2 by omega) with rfl | rfl | rfl <;> rfl
theorem aP_14 {c : Nat} (hc : c < 3) : sA (24 + 16 * c) 20 3000 := by rcases (show c = 0 ∨ c = 1 ∨ c = 2 by omega) with rfl | rfl | rfl <;> exact ⟨by decide, by decide, rfl⟩
theorem oU {c : Nat} (hc : c < 3) : sO (25 + 16 * c) 9 := by rcases (show c = 0 ∨ c = 1 ∨ c = 2 by omega) with rfl | rfl | rfl <;> exact ⟨by decide, by decide, rfl, by decide⟩
theorem qU_2 {c : Nat} (hc : c < 3) : Q0 (25 + 16 * c) 2 = 26 + 16 * c + 1 := by rcases (show c = 0 ∨ c = 1 ∨ c = 2 by omega) with rfl | rfl | rfl <;> rfl
theorem aU_2 {c : Nat} (hc : c < 3) : sA (26 + 16 * c) 20 15000 := by rcases (show c = 0 ∨ c = 1 ∨ c = 2 by omega) with rfl | rfl | rfl <;> exact ⟨by decide, by decide, rfl⟩
theorem qU_3 {c : Nat} (hc : c < 3) : Q0 (25 + 16 * c) 3 = 27 + 16 * c + 1 := by rcases (show c = 0 ∨ c = 1 ∨ c = 2 by omega) with rfl | rfl | rfl <;> rfl
theorem aU_3 {c : Nat} (hc : c < 3) : sA (27 + 16 * c) 21 24112 := by rcases (show c = 0 ∨ c = 1 ∨ c = 2 by omega) with rfl | rfl | rfl <;> exact ⟨by decide, by decide, rfl⟩
theorem qU_4 {c : Nat} (hc : c < 3) : Q0 (25 + 16 * c) 4 = 28 + 16 * c + 1 := by rcases (show c = 0 ∨ c = 1 ∨ c = 2 by omega) with rfl | rfl | rfl <;> rfl
theorem aU_4 {c : Nat} (hc : c < 3) : sA (28 + 16 * c) 20 8 := by rcases (show c = 0 ∨ c = 1 ∨ c = 2 by omega) with rfl | rfl | rfl <;> exact ⟨by decide, by decide, rfl⟩
theorem oV {c : Nat} (hc : c < 3) : sO (29 + 16 * c) 6 := by rcases (show c = 0 ∨ c = 1 ∨ c = 2 by omega) with rfl | rfl | rfl <;> exact ⟨by decide, by decide, rfl, by decide⟩
theorem qV_4 {c : Nat} (hc : c < 3) : Q0 (29 + 16 * c) 4 = 30 + 16 * c + 1 := by rcases (show c = 0 ∨ c = 1 ∨ c = 2 by omega) with rfl | rfl | rfl <;> rfl
theorem aV_4 {c : Nat} (hc : c < 3) : sA (30 + 16 * c) 21 3198 := by rcases (show c = 0 ∨ c = 1 ∨ c = 2 by omega) with rfl | rfl | rfl <;> exact ⟨by decide, by decide, rfl⟩
theorem qV_8 {c : Nat} (hc : c < 3) : Q0 (29 + 16 * c) 8 = 31 + 16 * c + 1 := by rcases (show c = 0 ∨ c = 1 ∨ c = 2 by omega) with rfl | rfl | rfl <;> rfl
theorem aV_8 {c : Nat} (hc : c < 3) : sA (31 + 16 * c) 20 15000 := by rcases (show c = 0 ∨ c = 1 ∨ c = 2 by omega) with rfl | rfl | rfl <;> exact ⟨by decide, by decide, rfl⟩
theorem qV_9 {c : Nat} (hc : c < 3) : Q0 (29 + 16 * c) 9 = 32 + 16 * c + 1 := by rcases (show c = 0 ∨ c = 1 ∨ c = 2 by omega) with rfl | rfl | rfl <;> rfl
theorem aV_9 {c : Nat} (hc : c < 3) : sA (32 + 16 * c) 20 2322 := by rcases (show c = 0 ∨ c = 1 ∨ c = 2 by omega) with rfl | rfl | rfl <;> exact ⟨by decide, by decide, rfl⟩
theorem qV_11 {c : Nat} (hc : c < 3) : Q0 (29 + 16 * c) 11 = 33 + 16 * c + 1 := by rcases (show c = 0 ∨ c = 1 ∨ c = 2 by omega) with rfl | rfl | rfl <;> rfl
theorem aV_11 {c : Nat} (hc : c < 3) : sA (33 + 16 * c) 20 2 := by rcases (show c = 0 ∨ c = 1 ∨ c = 2 by omega) with rfl | rfl | rfl <;> exact ⟨by decide, by decide, rfl⟩
theorem qV_12 {c : Nat} (hc : c < 3) : Q0 (29 + 16 * c) 12 = 34 + 16 * c + 1 := by rcases (show c = 0 ∨ c = 1 ∨ c = 2 by omega) with rfl | rfl | rfl <;> rfl
theorem aV_12 {c : Nat} (hc : c < 3) : sA (34 + 16 * c) 20 2 := by rcases (show c = 0 ∨ c = 1 ∨ c = 2 by omega) with rfl | rfl | rfl <;> exact ⟨by decide, by decide, rfl⟩
theorem oG {c : Nat} (hc : c < 3) : sO (74 + 3 * c) 4 := by rcases (show c = 0 ∨ c = 1 ∨ c = 2 by omega) with rfl | rfl | rfl <;> exact ⟨by decide, by decide, rfl, by decide⟩
theorem qG_0 {c : Nat} (hc : c < 3) : Q0 (74 + 3 * c) 0 = 75 + 3 * c + 1 := by rcases (show c = 0 ∨ c = 1 ∨ c = 2 by omega) with rfl | rfl | rfl <;> rfl
theorem aG_0 {c : Nat} (hc : c < 3) : sA (75 + 3 * c) 20 300 := by rcases (show c = 0 ∨ c = 1 ∨ c = 2 by omega) with rfl | rfl | rfl <;> exact ⟨by decide, by decide, rfl⟩
theorem qG_1 {c : Nat} (hc : c < 3) : Q0 (74 + 3 * c) 1 = 76 + 3 * c + 1 := by rcases (show c = 0 ∨ c = 1 ∨ c = 2 by omega) with rfl | rfl | rfl <;> rfl
theorem aG_1 {c : Nat} (hc : c < 3) : sA (76 + 3 * c) 20 300 := by rcases (show c = 0 ∨ c = 1 ∨ c = 2 by omega) with rfl | rfl | rfl <;> exact ⟨by decide, by decide, rfl⟩
theorem oC {c : Nat} (hc : c < 2) : sO (7 + 7 * c) 1 := by rcases (show c = 0 ∨ c = 1 by omega) with rfl | rfl <;> exact ⟨by decide, by decide, rfl, by decide⟩
theorem qC_0 {c : Nat} (hc : c < 2) : Q0 (7 + 7 * c) 0 = 8 + 7 * c + 1 := by rcases (show c = 0 ∨ c = 1 by omega) with rfl | rfl <;> rfl
theorem aC_0 {c : Nat} (hc : c < 2) : sA (8 + 7 * c) 20 6 := by rcases (show c = 0 ∨ c = 1 by omega) with rfl | rfl <;> exact ⟨by decide, by decide, rfl⟩
theorem qC_2 {c : Nat} (hc : c < 2) : Q0 (7 + 7 * c) 2 = 9 + 7 * c + 1 := by rcases (show c = 0 ∨ c = 1 by omega) with rfl | rfl <;> rfl
theorem aC_2 {c : Nat} (hc : c < 2) : sA (9 + 7 * c) 20 (if c = 0 then 3001 else 12001) := by rcases (show c = 0 ∨ c = 1 by omega) with rfl | rfl <;> exact ⟨by decide, by decide, rfl⟩
theorem rP {c : Nat} (hc : c < 3) : Q0 10 c = 19 + 16 * c + 1 := by rcases (show c = 0 ∨ c = 1 ∨ c = 2 by omega) with rfl | rfl | rfl <;> rfl
theorem rU {c : Nat} (hc : c < 3) : Q0 11 c = 25 + 16 * c + 1 := by rcases (show c = 0 ∨ c = 1 ∨ c = 2 by omega) with rfl | rfl | rfl <;> rfl
theorem rV {c : Nat} (hc : c < 3) : Q0 12 c = 29 + 16 * c + 1 := by rcases (show c = 0 ∨ c = 1 ∨ c = 2 by omega) with rfl | rfl | rfl <;> rfl
/-- ends of methods, by what the caller wants -/
def pKi (K : Int32 → Ih → Jh → Prop) : Option Value → Hp → Prop := fun v h => ∃ r I J, v = some (.int r) ∧ h = hp I J ∧ K r I J
def nb (x : Int32) : Prop := narrow .boolean (.int x) = .int x
def pKz (K : Int32 → Ih → Jh → Prop) : Option Value → Hp → Prop := fun v h => ∃ r I J, v = some (.int r) ∧ h = hp I J ∧ nb r ∧ K r I J
def pKl (K : Int64 → Ih → Jh → Prop) : Option Value → Hp → Prop := fun v h => ∃ r I J, v = some (.long r) ∧ h = hp I J ∧ K r I J
def pKv (K : Ih → Jh → Prop) : Option Value → Hp → Prop := fun v h => ∃ I J, v = none ∧ h = hp I J ∧ K I J
theorem nb0 : nb 0 := rfl
theorem nb1 : nb 1 := rfl
theorem nb_iff {x : Int32} : nb x ↔ x = 0 ∨ x = 1 := by
  unfold nb
  constructor
  · intro h
    have h1 : x &&& 1 = x := by
      have : narrow .boolean (.int x) = .int (x &&& 1) := rfl
      rw [this] at h; exact Value.int.inj h
    have h2 := pk_and x (m := 1) 1 (by decide)
    rw [h1] at h2
    have h3 : x.toBitVec.toNat % 2 ^ 1 = 0 ∨ x.toBitVec.toNat % 2 ^ 1 = 1 := by omega
    rcases h3 with h3 | h3
    · left; rw [h2, h3]; rfl
    · right; rw [h2, h3]; rfl
  · rintro (rfl | rfl) <;> rfl
theorem nb_or {x y : Int32} (hx : nb x) (hy : nb y) : nb (x ||| y) := by
  rcases nb_iff.mp hx with rfl | rfl <;> rcases nb_iff.mp hy with rfl | rfl <;> rfl
theorem nb_and {x y : Int32} (hx : nb x) (hy : nb y) : nb (x &&& y) := by
  rcases nb_iff.mp hx with rfl | rfl <;> rcases nb_iff.mp hy with rfl | rfl <;> rfl
theorem w_entryF {E : Ev} {M : Md} {mc ms : Nat} {as : List Value} {h : Hp} {Post : Option Value → Hp → Prop} (hy : plainFor (mY M) = true) (hlen : (lg_sl (as.map (cv E))).length ≤ mL M)
    (kk : Wc E M (rmOf M mc ms) (fin E mc ms Post) 0 0 0 (lv_args 0 as) [] h) : Wm E M mc ms as h Post := by
  refine va_MetF (cc := mC M) (maxL := mL M) (ret := mT M) hy rfl ?_
  intro p e s m args below meth c s₁ B hml hv
  obtain ⟨rfl, hE, hH⟩ := hv
  have hts := atoms_spec (ws := wd M) B.pre
  have hl := lv_entry (as.map (cv E)) (n := mL M) hlen
  rw [lg_entry_eq]
  rw [lv_args_cv] at hl
  exact kk p e s m _ below meth c s.heap [] _ ⟨B.exec, B.bytes, B.returns, hml, findClass_of_methodNamed B.named, fun w hw => hts w (List.mem_cons_of_mem _ hw), B.notSynchronized, fun h9 => (name_of_methodNamed B.named B.method).1.trans h9, hE⟩ hl hH va_S.rf
def pvU (r : Nat) : Value := match r with
  | 0 => .null
  | c + 1 => .ref (25 + 16 * c)
def pKa (K : Nat → Ih → Jh → Prop) : Option Value → Hp → Prop := fun v h => ∃ r I J, v = some (pvU r) ∧ h = hp I J ∧ r ≤ 3 ∧ K r I J
section PR
variable {E : Ev} {M : Md} {R : Room} {F : List Frame → Array Value → State → State → Prop} {pc cl sl : Nat} {lv : List (Nat × Value)} {st : List Value} {I : Ih} {J : Jh}
theorem w_lv {h : Hp} {lv' : List (Nat × Value)} (k : Wc E M R F cl sl pc lv' st h) (ks : List Nat) (hl : lv_pick lv ks = lv') : Wc E M R F cl sl pc lv st h :=
  fun p e s m args below meth c H locs ls C hl0 hh hs => k p e s m args below meth c H locs ls C (lv_sub hl0 ks (by
    rw [← hl]; unfold lv_pick; rw [List.map_filterMap]; congr 1; funext i; rw [List.getElem?_map])) hh hs
theorem w_topi {h : Hp} {x : Int32} (k : ∀ y : Int32, y = x → Wc E M R F cl sl pc lv (.int y :: st) h) : Wc E M R F cl sl pc lv (.int x :: st) h := k x rfl
theorem p_getI (q : Nat) {idx ci j v : Nat} (ho : sO v ci) (hf : FL (mY M).cls idx ci j) (hty : tI (tyC ci j) = true) (hd : decode (mC M) pc = .ok (.getfield idx, 3)) (hq : pc + 3 = q) (k : Wc E M R F cl sl q lv (.int (I v j) :: st) (hp I J)) : Wc E M R F cl sl pc lv (.ref v :: st) (hp I J) :=
  r_getV (x := .int (I v j)) q inC (show isO (hp I J) v ci from ho) hf (fvl_I (h := hp I J) hty v j).symm hd hq k
theorem p_getJ (q : Nat) {idx ci j v : Nat} (ho : sO v ci) (hf : FL (mY M).cls idx ci j) (hty : tyC ci j = .long) (hd : decode (mC M) pc = .ok (.getfield idx, 3)) (hq : pc + 3 = q) (k : Wc E M R F cl sl q lv (.long (J v j) :: st) (hp I J)) : Wc E M R F cl sl pc lv (.ref v :: st) (hp I J) :=
  r_getV (x := .long (J v j)) q inC (show isO (hp I J) v ci from ho) hf (by rw [hty]; rfl) hd hq k
theorem p_getR (q : Nat) {idx ci j v r : Nat} (ho : sO v ci) (hf : FL (mY M).cls idx ci j) (hty : tP (tyC ci j) = true) (hr : Q0 v j = r + 1) (hd : decode (mC M) pc = .ok (.getfield idx, 3)) (hq : pc + 3 = q) (k : Wc E M R F cl sl q lv (.ref r :: st) (hp I J)) : Wc E M R F cl sl pc lv (.ref v :: st) (hp I J) :=
  r_getV (x := .ref r) q inC (show isO (hp I J) v ci from ho) hf (by rw [fvl_P hty]; show cv E (.ref r) = va_rf (adp E (Q0 v j)); rw [hr]; rfl) hd hq k
theorem p_putI (q : Nat) {idx ci j v : Nat} {x : Int32} (ho : sO v ci) (hf : FL (mY M).cls idx ci j) (hty : tyC ci j = .int) (hfin : (TC ci j).2.2.2 = false) (hd : decode (mC M) pc = .ok (.putfield idx, 3)) (hq : pc + 3 = q) (k : Wc E M R F cl sl q lv st (hp (updI I v j x) J)) : Wc E M R F cl sl pc lv (.int x :: .ref v :: st) (hp I J) :=
  r_putI0 q inC (show isO (hp I J) v ci from ho) hf (by rw [hty]; rfl) (Or.inl hfin) (by rw [hty]; rfl) (by rw [hty]; rfl) hd hq k
theorem p_putZ (q : Nat) {idx ci j v : Nat} {x : Int32} (hx : nb x) (ho : sO v ci) (hf : FL (mY M).cls idx ci j) (hty : tyC ci j = .boolean) (hfin : (TC ci j).2.2.2 = false) (hd : decode (mC M) pc = .ok (.putfield idx, 3)) (hq : pc + 3 = q) (k : Wc E M R F cl sl q lv st (hp (updI I v j x) J)) : Wc E M R F cl sl pc lv (.int x :: .ref v :: st) (hp I J) :=
  r_putI0 q inC (show isO (hp I J) v ci from ho) hf (by rw [hty]; rfl) (Or.inl hfin) (by rw [hty]; exact hx) (by rw [hty]; rcases nb_iff.mp hx with rfl | rfl <;> rfl) hd hq k
theorem p_putJ (q : Nat) {idx ci j v : Nat} {x : Int64} (ho : sO v ci) (hf : FL (mY M).cls idx ci j) (hty : tyC ci j = .long) (hfin : (TC ci j).2.2.2 = false) (hd : decode (mC M) pc = .ok (.putfield idx, 3)) (hq : pc + 3 = q) (k : Wc E M R F cl sl q lv st (hp I (updJ J v j x))) : Wc E M R F cl sl pc lv (.long x :: .ref v :: st) (hp I J) :=
  r_putJ0 q inC (show isO (hp I J) v ci from ho) hf hty (Or.inl hfin) hd hq k
theorem p_putIF (q : Nat) {idx ci j v : Nat} {x : Int32} (ho : sO v ci) (hf : FL (mY M).cls idx ci j) (hty : tyC ci j = .int) (hfin : (TC ci j).2.2.2 = true ∧ (mY M).name = "<init>" ∧ (TC ci j).1 = (mY M).cls) (hd : decode (mC M) pc = .ok (.putfield idx, 3)) (hq : pc + 3 = q) (k : Wc E M R F cl sl q lv st (hp (updI I v j x) J)) : Wc E M R F cl sl pc lv (.int x :: .ref v :: st) (hp I J) :=
  r_putI0 q inC (show isO (hp I J) v ci from ho) hf (by rw [hty]; rfl) (Or.inr hfin) (by rw [hty]; rfl) (by rw [hty]; rfl) hd hq k
theorem p_putJF (q : Nat) {idx ci j v : Nat} {x : Int64} (ho : sO v ci) (hf : FL (mY M).cls idx ci j) (hty : tyC ci j = .long) (hfin : (TC ci j).2.2.2 = true ∧ (mY M).name = "<init>" ∧ (TC ci j).1 = (mY M).cls) (hd : decode (mC M) pc = .ok (.putfield idx, 3)) (hq : pc + 3 = q) (k : Wc E M R F cl sl q lv st (hp I (updJ J v j x))) : Wc E M R F cl sl pc lv (.long x :: .ref v :: st) (hp I J) :=
  r_putJ0 q inC (show isO (hp I J) v ci from ho) hf hty (Or.inr hfin) hd hq k
theorem p_iaload (q kk : Nat) {v n : Nat} {i : Int32} (hk : i.toNatClampNeg = kk) (ha : sA v 20 n) (hin : vp_in i n) (hd : decode (mC M) pc = .ok (.iaload, 1)) (hq : pc + 1 = q) (k : Wc E M R F cl sl q lv (.int (I v kk) :: st) (hp I J)) : Wc E M R F cl sl pc lv (.int i :: .ref v :: st) (hp I J) := by subst hk; exact r_iaload q (show isA (hp I J) v 20 n from ha) hin hd hq k
theorem p_baload (q kk : Nat) {v n : Nat} {i : Int32} (hk : i.toNatClampNeg = kk) (ha : sA v 21 n) (hin : vp_in i n) (hd : decode (mC M) pc = .ok (.baload, 1)) (hq : pc + 1 = q) (k : Wc E M R F cl sl q lv (.int (I v kk) :: st) (hp I J)) : Wc E M R F cl sl pc lv (.int i :: .ref v :: st) (hp I J) := by subst hk; exact r_baload q (show isA (hp I J) v 21 n from ha) hin hd hq k
theorem p_zaload (q kk : Nat) {v n : Nat} {i : Int32} (hk : i.toNatClampNeg = kk) (ha : sA v 22 n) (hin : vp_in i n) (hd : decode (mC M) pc = .ok (.baload, 1)) (hq : pc + 1 = q) (k : Wc E M R F cl sl q lv (.int (I v kk) :: st) (hp I J)) : Wc E M R F cl sl pc lv (.int i :: .ref v :: st) (hp I J) := by subst hk; exact r_zaload q (show isA (hp I J) v 22 n from ha) hin hd hq k
theorem p_iastore (q kk : Nat) {v n : Nat} {i x : Int32} (hk : i.toNatClampNeg = kk) (ha : sA v 20 n) (hin : vp_in i n) (hd : decode (mC M) pc = .ok (.iastore, 1)) (hq : pc + 1 = q) (k : Wc E M R F cl sl q lv st (hp (updI I v kk x) J)) : Wc E M R F cl sl pc lv (.int x :: .int i :: .ref v :: st) (hp I J) := by subst hk; exact r_iastore q (show isA (hp I J) v 20 n from ha) hin hd hq k
theorem p_bastore (q kk : Nat) {v n : Nat} {i x : Int32} (hk : i.toNatClampNeg = kk) (ha : sA v 21 n) (hin : vp_in i n) (hd : decode (mC M) pc = .ok (.bastore, 1)) (hq : pc + 1 = q) (k : Wc E M R F cl sl q lv st (hp (updI I v kk x.toInt8.toInt32) J)) : Wc E M R F cl sl pc lv (.int x :: .int i :: .ref v :: st) (hp I J) := by subst hk; exact r_bastore q (show isA (hp I J) v 21 n from ha) hin hd hq k
theorem p_zastore (q kk : Nat) {v n : Nat} {i x : Int32} (hk : i.toNatClampNeg = kk) (hx : nb x) (ha : sA v 22 n) (hin : vp_in i n) (hd : decode (mC M) pc = .ok (.bastore, 1)) (hq : pc + 1 = q) (k : Wc E M R F cl sl q lv st (hp (updI I v kk x) J)) : Wc E M R F cl sl pc lv (.int x :: .int i :: .ref v :: st) (hp I J) := by subst hk; exact r_zastore q (show isA (hp I J) v 22 n from ha) hin hx hd hq k
theorem p_alen (q t0 : Nat) {v kd n : Nat} {ty : FieldType} (ha : sA v kd n) (hk : 12 ≤ kd) (ht : (tysE E)[t0]? = some (evA E kd, ty)) (hd : decode (mC M) pc = .ok (.arraylength, 1)) (hq : pc + 1 = q) (k : Wc E M R F cl sl q lv (.int (nI n) :: st) (hp I J)) : Wc E M R F cl sl pc lv (.ref v :: st) (hp I J) := r_alenG q t0 (show isA (hp I J) v kd n from ha) hk ht hd hq k
theorem p_aaload (q t0 : Nat) {v n kd r : Nat} {C0 : String} {i : Int32} (ha : sA v kd n) (hk : 30 ≤ kd) (ht : (tysE E)[t0]? = some (evA E kd, .object C0)) (hin : vp_in i n) (hr : Q0 v i.toNatClampNeg = r + 1) (hd : decode (mC M) pc = .ok (.aaload, 1)) (hq : pc + 1 = q) (k : Wc E M R F cl sl q lv (.ref r :: st) (hp I J)) : Wc E M R F cl sl pc lv (.int i :: .ref v :: st) (hp I J) :=
  r_aaloadG q t0 (show isA (hp I J) v kd n from ha) hk ht hin hd hq (by
    have e : pv (hQ (hp I J) v i.toNatClampNeg) = .ref r := by show pv (Q0 v i.toNatClampNeg) = _; rw [hr]; rfl
    rw [e]; exact k)
theorem p_copyB (q : Nat) {idx a b n0 n1 : Nat} {sp dp n : Int32} (w1 : Cond.methodLink (mY M).cls idx arraycopyName ∈ TW) (ha : sA a 21 n0) (hb : sA b 21 n1) (h1 : ¬ sp < 0) (h2 : ¬ dp < 0) (h3 : ¬ n < 0) (h4 : sp.toNatClampNeg + n.toNatClampNeg ≤ n0) (h5 : dp.toNatClampNeg + n.toNatClampNeg ≤ n1) (hfit : ∀ i, i < n.toNatClampNeg → fits .byte (.int (I a (sp.toNatClampNeg + i))) = true)
    (hf : 1 ≤ R.frames) (hlo : (st.map fun v => v.category).sum + 18 ≤ R.locals) (hd : decode (mC M) pc = .ok (.invokestatic idx, 3)) (hq : pc + 3 = q) (k : Wc E M R F cl sl q lv st (hp (cpI I a b sp.toNatClampNeg dp.toNatClampNeg n.toNatClampNeg) J)) : Wc E M R F cl sl pc lv (.int n :: .int dp :: .ref b :: .int sp :: .ref a :: st) (hp I J) :=
  r_copyB q w1 ac_nat ac_sta ac_ini (show isA (hp I J) a 21 n0 from ha) (show isA (hp I J) b 21 n1 from hb) h1 h2 h3 h4 h5 hfit hf hlo hd hq k
theorem p_tload (q kk : Nat) {i : Int32} (hk : i.toNatClampNeg = kk) (hin : vp_in i 16) (hd : decode (mC M) pc = .ok (.iaload, 1)) (hq : pc + 1 = q) (k : Wc E M R F cl sl q lv (.int (CKf kk) :: st) (hp I J)) : Wc E M R F cl sl pc lv (.int i :: .ref 1 :: st) (hp I J) := by subst hk; exact r_tload q hin hd hq k
theorem RMOK.mk {M' : Md} {R : Room} (h1 : mF M' + 1 ≤ R.frames) (h2 : 8 + (mL M' + 11) + mW M' ≤ R.locals) : RMOK M' R := ⟨h1, h2⟩
theorem p_callVi (q : Nat) {M' : Md} {idx v ci : Nat} {as stk : List Value} {K : Int32 → Ih → Jh → Prop} (hm : Wm E M' 0 0 (.ref v :: as) (hp I J) (pKi K)) (ok : MOK M' as.length) (w1 : Cond.methodLink (mY M).cls idx (mY M') ∈ TW) (w2 : Cond.instanceMethod (mY M') ∈ TW) (w3 : Cond.selects (mY M').cls (mY M') (mY M') ∈ TW) (ho : sO v ci) (hcl : RC ci = (mY M').cls) (hR : RMOK M' R) (hst : (st.map fun v => v.category).sum ≤ 8) (hstk : stk = as.reverse ++ .ref v :: st) (hd : decode (mC M) pc = .ok (.invokevirtual idx, 3)) (hq : pc + 3 = q)
    (kk : ∀ (r : Int32) (I : Ih) (J : Jh), K r I J → Wc E M R F cl sl q lv (.int r :: st) (hp I J)) (hcs : cl ≤ R.cells ∧ sl ≤ R.slots := by first | exact ⟨Nat.zero_le _, Nat.zero_le _⟩ | exact ⟨by decide, by decide⟩) : Wc E M R F cl sl pc lv stk (hp I J) :=
  r_callV q hm ok w1 w2 w3 (show isO (hp I J) v ci from ho) hcl hR hst hcs hstk hd hq (fun v h' hP => by obtain ⟨r, I', J', rfl, rfl, h9⟩ := hP; exact kk r I' J' h9)
theorem p_callSi (q : Nat) {M' : Md} {idx : Nat} {as stk : List Value} {K : Int32 → Ih → Jh → Prop} (hm : Wm E M' 0 0 as (hp I J) (pKi K)) (ok : MOK M' as.length) (w1 : Cond.methodLink (mY M).cls idx (mY M') ∈ TW) (w2 : Cond.static (mY M') ∈ TW) (hR : RMOK M' R) (hst : (st.map fun v => v.category).sum ≤ 8) (hstk : stk = as.reverse ++ st) (hd : decode (mC M) pc = .ok (.invokestatic idx, 3)) (hq : pc + 3 = q)
    (kk : ∀ (r : Int32) (I : Ih) (J : Jh), K r I J → Wc E M R F cl sl q lv (.int r :: st) (hp I J)) (hcs : cl ≤ R.cells ∧ sl ≤ R.slots := by first | exact ⟨Nat.zero_le _, Nat.zero_le _⟩ | exact ⟨by decide, by decide⟩) : Wc E M R F cl sl pc lv stk (hp I J) :=
  r_callS q hm ok w1 w2 hR hst hcs hstk hd hq (fun v h' hP => by obtain ⟨r, I', J', rfl, rfl, h9⟩ := hP; exact kk r I' J' h9)
theorem p_callVz (q : Nat) {M' : Md} {idx v ci : Nat} {as stk : List Value} {K : Int32 → Ih → Jh → Prop} (hm : Wm E M' 0 0 (.ref v :: as) (hp I J) (pKz K)) (ok : MOK M' as.length) (w1 : Cond.methodLink (mY M).cls idx (mY M') ∈ TW) (w2 : Cond.instanceMethod (mY M') ∈ TW) (w3 : Cond.selects (mY M').cls (mY M') (mY M') ∈ TW) (ho : sO v ci) (hcl : RC ci = (mY M').cls) (hR : RMOK M' R) (hst : (st.map fun v => v.category).sum ≤ 8) (hstk : stk = as.reverse ++ .ref v :: st) (hd : decode (mC M) pc = .ok (.invokevirtual idx, 3)) (hq : pc + 3 = q)
    (kk : ∀ (r : Int32) (I : Ih) (J : Jh), nb r → K r I J → Wc E M R F cl sl q lv (.int r :: st) (hp I J)) (hcs : cl ≤ R.cells ∧ sl ≤ R.slots := by first | exact ⟨Nat.zero_le _, Nat.zero_le _⟩ | exact ⟨by decide, by decide⟩) : Wc E M R F cl sl pc lv stk (hp I J) :=
  r_callV q hm ok w1 w2 w3 (show isO (hp I J) v ci from ho) hcl hR hst hcs hstk hd hq (fun v h' hP => by obtain ⟨r, I', J', rfl, rfl, h8, h9⟩ := hP; exact kk r I' J' h8 h9)
theorem p_callSz (q : Nat) {M' : Md} {idx : Nat} {as stk : List Value} {K : Int32 → Ih → Jh → Prop} (hm : Wm E M' 0 0 as (hp I J) (pKz K)) (ok : MOK M' as.length) (w1 : Cond.methodLink (mY M).cls idx (mY M') ∈ TW) (w2 : Cond.static (mY M') ∈ TW) (hR : RMOK M' R) (hst : (st.map fun v => v.category).sum ≤ 8) (hstk : stk = as.reverse ++ st) (hd : decode (mC M) pc = .ok (.invokestatic idx, 3)) (hq : pc + 3 = q)
    (kk : ∀ (r : Int32) (I : Ih) (J : Jh), nb r → K r I J → Wc E M R F cl sl q lv (.int r :: st) (hp I J)) (hcs : cl ≤ R.cells ∧ sl ≤ R.slots := by first | exact ⟨Nat.zero_le _, Nat.zero_le _⟩ | exact ⟨by decide, by decide⟩) : Wc E M R F cl sl pc lv stk (hp I J) :=
  r_callS q hm ok w1 w2 hR hst hcs hstk hd hq (fun v h' hP => by obtain ⟨r, I', J', rfl, rfl, h8, h9⟩ := hP; exact kk r I' J' h8 h9)
theorem p_callVl (q : Nat) {M' : Md} {idx v ci : Nat} {as stk : List Value} {K : Int64 → Ih → Jh → Prop} (hm : Wm E M' 0 0 (.ref v :: as) (hp I J) (pKl K)) (ok : MOK M' as.length) (w1 : Cond.methodLink (mY M).cls idx (mY M') ∈ TW) (w2 : Cond.instanceMethod (mY M') ∈ TW) (w3 : Cond.selects (mY M').cls (mY M') (mY M') ∈ TW) (ho : sO v ci) (hcl : RC ci = (mY M').cls) (hR : RMOK M' R) (hst : (st.map fun v => v.category).sum ≤ 8) (hstk : stk = as.reverse ++ .ref v :: st) (hd : decode (mC M) pc = .ok (.invokevirtual idx, 3)) (hq : pc + 3 = q)
    (kk : ∀ (r : Int64) (I : Ih) (J : Jh), K r I J → Wc E M R F cl sl q lv (.long r :: st) (hp I J)) (hcs : cl ≤ R.cells ∧ sl ≤ R.slots := by first | exact ⟨Nat.zero_le _, Nat.zero_le _⟩ | exact ⟨by decide, by decide⟩) : Wc E M R F cl sl pc lv stk (hp I J) :=
  r_callV q hm ok w1 w2 w3 (show isO (hp I J) v ci from ho) hcl hR hst hcs hstk hd hq (fun v h' hP => by obtain ⟨r, I', J', rfl, rfl, h9⟩ := hP; exact kk r I' J' h9)
theorem p_callSl (q : Nat) {M' : Md} {idx : Nat} {as stk : List Value} {K : Int64 → Ih → Jh → Prop} (hm : Wm E M' 0 0 as (hp I J) (pKl K)) (ok : MOK M' as.length) (w1 : Cond.methodLink (mY M).cls idx (mY M') ∈ TW) (w2 : Cond.static (mY M') ∈ TW) (hR : RMOK M' R) (hst : (st.map fun v => v.category).sum ≤ 8) (hstk : stk = as.reverse ++ st) (hd : decode (mC M) pc = .ok (.invokestatic idx, 3)) (hq : pc + 3 = q)
    (kk : ∀ (r : Int64) (I : Ih) (J : Jh), K r I J → Wc E M R F cl sl q lv (.long r :: st) (hp I J)) (hcs : cl ≤ R.cells ∧ sl ≤ R.slots := by first | exact ⟨Nat.zero_le _, Nat.zero_le _⟩ | exact ⟨by decide, by decide⟩) : Wc E M R F cl sl pc lv stk (hp I J) :=
  r_callS q hm ok w1 w2 hR hst hcs hstk hd hq (fun v h' hP => by obtain ⟨r, I', J', rfl, rfl, h9⟩ := hP; exact kk r I' J' h9)
theorem p_callVv (q : Nat) {M' : Md} {idx v ci : Nat} {as stk : List Value} {K : Ih → Jh → Prop} (hm : Wm E M' 0 0 (.ref v :: as) (hp I J) (pKv K)) (ok : MOK M' as.length) (w1 : Cond.methodLink (mY M).cls idx (mY M') ∈ TW) (w2 : Cond.instanceMethod (mY M') ∈ TW) (w3 : Cond.selects (mY M').cls (mY M') (mY M') ∈ TW) (ho : sO v ci) (hcl : RC ci = (mY M').cls) (hR : RMOK M' R) (hst : (st.map fun v => v.category).sum ≤ 8) (hstk : stk = as.reverse ++ .ref v :: st) (hd : decode (mC M) pc = .ok (.invokevirtual idx, 3)) (hq : pc + 3 = q)
    (kk : ∀  (I : Ih) (J : Jh), K I J → Wc E M R F cl sl q lv (st) (hp I J)) (hcs : cl ≤ R.cells ∧ sl ≤ R.slots := by first | exact ⟨Nat.zero_le _, Nat.zero_le _⟩ | exact ⟨by decide, by decide⟩) : Wc E M R F cl sl pc lv stk (hp I J) :=
  r_callV q hm ok w1 w2 w3 (show isO (hp I J) v ci from ho) hcl hR hst hcs hstk hd hq (fun v h' hP => by obtain ⟨I', J', rfl, rfl, h9⟩ := hP; exact kk I' J' h9)
theorem p_callSv (q : Nat) {M' : Md} {idx : Nat} {as stk : List Value} {K : Ih → Jh → Prop} (hm : Wm E M' 0 0 as (hp I J) (pKv K)) (ok : MOK M' as.length) (w1 : Cond.methodLink (mY M).cls idx (mY M') ∈ TW) (w2 : Cond.static (mY M') ∈ TW) (hR : RMOK M' R) (hst : (st.map fun v => v.category).sum ≤ 8) (hstk : stk = as.reverse ++ st) (hd : decode (mC M) pc = .ok (.invokestatic idx, 3)) (hq : pc + 3 = q)
    (kk : ∀  (I : Ih) (J : Jh), K I J → Wc E M R F cl sl q lv (st) (hp I J)) (hcs : cl ≤ R.cells ∧ sl ≤ R.slots := by first | exact ⟨Nat.zero_le _, Nat.zero_le _⟩ | exact ⟨by decide, by decide⟩) : Wc E M R F cl sl pc lv stk (hp I J) :=
  r_callS q hm ok w1 w2 hR hst hcs hstk hd hq (fun v h' hP => by obtain ⟨I', J', rfl, rfl, h9⟩ := hP; exact kk I' J' h9)
theorem p_callSNl (q : Nat) {M' : Md} {idx : Nat} {host : String} {as stk : List Value} {K : Int64 → Ih → Jh → Prop} (hm : Wm E M' 0 0 as (hp I J) (pKl K)) (ok : MOK M' as.length) (w1 : Cond.methodLinkNest (mY M).cls idx (mY M') host ∈ NW) (w2 : Cond.static (mY M') ∈ TW) (hR : RMOK M' R) (hst : (st.map fun v => v.category).sum ≤ 8) (hstk : stk = as.reverse ++ st) (hd : decode (mC M) pc = .ok (.invokestatic idx, 3)) (hq : pc + 3 = q)
    (kk : ∀ (r : Int64) (I : Ih) (J : Jh), K r I J → Wc E M R F cl sl q lv (.long r :: st) (hp I J)) (hcs : cl ≤ R.cells ∧ sl ≤ R.slots := by first | exact ⟨Nat.zero_le _, Nat.zero_le _⟩ | exact ⟨by decide, by decide⟩) : Wc E M R F cl sl pc lv stk (hp I J) :=
  r_callSN q hm ok w1 w2 hR hst hcs hstk hd hq (fun v h' hP => by obtain ⟨r, I', J', rfl, rfl, h9⟩ := hP; exact kk r I' J' h9)
theorem p_iret {x : Int32} {K : Int32 → Ih → Jh → Prop} (hd : decode (mC M) pc = .ok (.ireturn, 1)) (hr : mT M = some .int) (h : K x I J) : Wc E M (rmOf M 0 0) (fin E 0 0 (pKi K)) 0 0 pc lv [.int x] (hp I J) := r_ireturn hd hr (Nat.le_refl _) (Nat.le_refl _) ⟨x, I, J, rfl, rfl, h⟩
theorem p_zret {x : Int32} {K : Int32 → Ih → Jh → Prop} (hb : nb x) (hd : decode (mC M) pc = .ok (.ireturn, 1)) (hr : mT M = some .boolean) (h : K x I J) : Wc E M (rmOf M 0 0) (fin E 0 0 (pKz K)) 0 0 pc lv [.int x] (hp I J) := r_zreturn hd hr hb (Nat.le_refl _) (Nat.le_refl _) ⟨x, I, J, rfl, rfl, hb, h⟩
theorem p_lret {x : Int64} {K : Int64 → Ih → Jh → Prop} (hd : decode (mC M) pc = .ok (.lreturn, 1)) (hr : mT M = some .long) (h : K x I J) : Wc E M (rmOf M 0 0) (fin E 0 0 (pKl K)) 0 0 pc lv [.long x] (hp I J) := r_lreturn hd hr (Nat.le_refl _) (Nat.le_refl _) ⟨x, I, J, rfl, rfl, h⟩
theorem p_vret {K : Ih → Jh → Prop} (hd : decode (mC M) pc = .ok (.return_, 1)) (hr : mT M = none) (h : K I J) : Wc E M (rmOf M 0 0) (fin E 0 0 (pKv K)) 0 0 pc lv [] (hp I J) := r_return hd hr (Nat.le_refl _) (Nat.le_refl _) ⟨I, J, rfl, rfl, h⟩
theorem p_aret {r : Nat} {n : String} {K : Nat → Ih → Jh → Prop} (hr3 : r ≤ 3) (hd : decode (mC M) pc = .ok (.areturn, 1)) (hr : mT M = some (.object n)) (h : K r I J) : Wc E M (rmOf M 0 0) (fin E 0 0 (pKa K)) 0 0 pc lv [pvU r] (hp I J) := by
  have e : pvU r = pv (match r with | 0 => 0 | c + 1 => 25 + 16 * c + 1) := by cases r <;> rfl
  rw [e]
  exact r_areturn hd hr (Nat.le_refl _) (Nat.le_refl _) ⟨r, I, J, by rw [e], rfl, hr3, h⟩
theorem p_callSa (q : Nat) {M' : Md} {idx : Nat} {as stk : List Value} {K : Nat → Ih → Jh → Prop} (hm : Wm E M' 0 0 as (hp I J) (pKa K)) (ok : MOK M' as.length) (w1 : Cond.methodLink (mY M).cls idx (mY M') ∈ TW) (w2 : Cond.static (mY M') ∈ TW) (hR : RMOK M' R) (hst : (st.map fun v => v.category).sum ≤ 8) (hstk : stk = as.reverse ++ st) (hd : decode (mC M) pc = .ok (.invokestatic idx, 3)) (hq : pc + 3 = q)
    (kk : ∀ (r : Nat) (I : Ih) (J : Jh), r ≤ 3 → K r I J → Wc E M R F cl sl q lv (pvU r :: st) (hp I J)) (hcs : cl ≤ R.cells ∧ sl ≤ R.slots := by first | exact ⟨Nat.zero_le _, Nat.zero_le _⟩ | exact ⟨by decide, by decide⟩) : Wc E M R F cl sl pc lv stk (hp I J) :=
  r_callS q hm ok w1 w2 hR hst hcs hstk hd hq (fun v h' hP => by obtain ⟨r, I', J', rfl, rfl, h8, h9⟩ := hP; exact kk r I' J' h8 h9)
theorem w_stU (q : Nat) (lv' : List (Nat × Value)) {i r : Nat} {h : Hp} {cl sl : Nat} (hd : decode (mC M) pc = .ok (.astore i, 2)) (hq : pc + 2 = q) (hn : i < mL M) (hl1 : (i, pvU r) :: lv.filter (fun q => !(q.1 == i) && !(q.1 + 1 == i && q.2.category == 2)) = lv') (k : Wc E M R F cl sl q lv' st h) : Wc E M R F cl sl pc lv (pvU r :: st) h := by
  cases r with
  | zero => exact r_astoreN q lv' hd hq hn hl1 k
  | succ c => exact r_astore q lv' hd hq hn hl1 k
theorem r_aload_nU (q k0 : Nat) {n : Fin 4} {i r : Nat} {h : Hp} {cl sl : Nat} (hd : decode (mC M) pc = .ok (.aload_n n, 1)) (hq : pc + 1 = q) (hi : (n : Nat) = i) (hk : lv[k0]? = some (i, pvU r)) (k : Wc E M R F cl sl q lv (pvU r :: st) h) : Wc E M R F cl sl pc lv st h := by
  cases r with
  | zero => exact r_aload_nN q k0 hd hq hi hk k
  | succ c => exact r_aload_n q k0 hd hq hi hk k
theorem p_vretG {K : Ih → Jh → Prop} {mc ms : Nat} (hd : decode (mC M) pc = .ok (.return_, 1)) (hr : mT M = none) (h : K I J) : Wc E M (rmOf M mc ms) (fin E mc ms (pKv K)) mc ms pc lv [] (hp I J) := r_return hd hr (Nat.le_refl _) (Nat.le_refl _) ⟨I, J, rfl, rfl, h⟩
end PR
theorem sw_all (x : Int32) (n : Nat) (hn : n < 2 ^ 31) : (∃ k, k < n ∧ x = nI k) ∨ (x.toInt < 0 ∨ ((n : Int) - 1) < x.toInt) := by
  by_cases h0 : x.toInt < 0
  · exact Or.inr (Or.inl h0)
  · by_cases h1 : ((n : Int) - 1) < x.toInt
    · exact Or.inr (Or.inr h1)
    · have hv : vp_in x n := vp_in_iff.mpr ⟨by omega, by omega⟩
      obtain ⟨j, hj, e⟩ := vp_in_of hv hn
      exact Or.inl ⟨j, hj, e⟩

