/-! What the stream is when it is made. -/
noncomputable def hIn (xs : Nat → Int32) : PH := sx_75 xs
set_option maxRecDepth 40000 in
theorem hIn_N (xs : Nat → Int32) : hN (hIn xs) = 83 ∧ hS (hIn xs) = 8773 := ⟨rfl, rfl⟩
theorem mk_in (xs : Nat → Int32) (d : Nat) : Rv (d + 3) 32 [.inr (.inr (.inr (1, 0, 1)))] (grow (h0 xs) 12) none (hIn xs) := sx_c29 xs d
set_option maxRecDepth 40000 in
theorem hIn_r_1_0 (xs : Nat → Int32) : (hIn xs).2.2.1 1 0 = (6, 0, 4) := rfl
set_option maxRecDepth 40000 in
theorem hIn_r_1_1 (xs : Nat → Int32) : (hIn xs).2.2.1 1 1 = (7, 0, 2) := rfl
set_option maxRecDepth 40000 in
theorem hIn_r_1_2 (xs : Nat → Int32) : (hIn xs).2.2.1 1 2 = (3, 0, 28) := rfl
set_option maxRecDepth 40000 in
theorem hIn_r_1_3 (xs : Nat → Int32) : (hIn xs).2.2.1 1 3 = (20, 120, 29) := rfl
set_option maxRecDepth 40000 in
theorem hIn_r_1_4 (xs : Nat → Int32) : (hIn xs).2.2.1 1 4 = (20, 120, 30) := rfl
set_option maxRecDepth 40000 in
theorem hIn_r_1_5 (xs : Nat → Int32) : (hIn xs).2.2.1 1 5 = (25, 6, 31) := rfl
set_option maxRecDepth 40000 in
theorem hIn_r_1_6 (xs : Nat → Int32) : (hIn xs).2.2.1 1 6 = (8, 0, 62) := rfl
set_option maxRecDepth 40000 in
theorem hIn_r_1_7 (xs : Nat → Int32) : (hIn xs).2.2.1 1 7 = (2, 0, 68) := rfl
set_option maxRecDepth 40000 in
theorem hIn_r_2_0 (xs : Nat → Int32) : (hIn xs).2.2.1 2 0 = (9, 0, 3) := rfl
set_option maxRecDepth 40000 in
theorem hIn_r_2_1 (xs : Nat → Int32) : (hIn xs).2.2.1 2 1 = (21, 8, 10) := rfl
set_option maxRecDepth 40000 in
theorem hIn_r_2_2 (xs : Nat → Int32) : (hIn xs).2.2.1 2 2 = (21, 6, 11) := rfl
set_option maxRecDepth 40000 in
theorem hIn_r_2_3 (xs : Nat → Int32) : (hIn xs).2.2.1 2 3 = (4, 0, 12) := rfl
set_option maxRecDepth 40000 in
theorem hIn_r_2_4 (xs : Nat → Int32) : (hIn xs).2.2.1 2 4 = (2, 0, 13) := rfl
set_option maxRecDepth 40000 in
theorem hIn_r_3_0 (xs : Nat → Int32) : (hIn xs).2.2.1 3 0 = (6, 0, 4) := rfl
set_option maxRecDepth 40000 in
theorem hIn_r_3_1 (xs : Nat → Int32) : (hIn xs).2.2.1 3 1 = (23, 401, 6) := rfl
set_option maxRecDepth 40000 in
theorem hIn_r_3_2 (xs : Nat → Int32) : (hIn xs).2.2.1 3 2 = (20, 401, 7) := rfl
set_option maxRecDepth 40000 in
theorem hIn_r_3_3 (xs : Nat → Int32) : (hIn xs).2.2.1 3 3 = (20, 401, 8) := rfl
set_option maxRecDepth 40000 in
theorem hIn_r_3_4 (xs : Nat → Int32) : (hIn xs).2.2.1 3 4 = (21, 401, 9) := rfl
set_option maxRecDepth 40000 in
theorem hIn_r_4_0 (xs : Nat → Int32) : (hIn xs).2.2.1 4 0 = (22, 1600, 5) := rfl
set_option maxRecDepth 40000 in
theorem hIn_r_12_4 (xs : Nat → Int32) : (hIn xs).2.2.1 12 4 = (40, 0, 21) := rfl
set_option maxRecDepth 40000 in
theorem hIn_r_13_0 (xs : Nat → Int32) : (hIn xs).2.2.1 13 0 = (20, 8, 14) := rfl
set_option maxRecDepth 40000 in
theorem hIn_r_13_1 (xs : Nat → Int32) : (hIn xs).2.2.1 13 1 = (20, 8, 15) := rfl
set_option maxRecDepth 40000 in
theorem hIn_r_13_2 (xs : Nat → Int32) : (hIn xs).2.2.1 13 2 = (20, 8, 16) := rfl
set_option maxRecDepth 40000 in
theorem hIn_r_13_3 (xs : Nat → Int32) : (hIn xs).2.2.1 13 3 = (24, 6, 17) := rfl
set_option maxRecDepth 40000 in
theorem hIn_r_13_4 (xs : Nat → Int32) : (hIn xs).2.2.1 13 4 = (5, 0, 18) := rfl
set_option maxRecDepth 40000 in
theorem hIn_r_17_0 (xs : Nat → Int32) : (hIn xs).2.2.1 17 0 = (4, 0, 22) := rfl
set_option maxRecDepth 40000 in
theorem hIn_r_17_1 (xs : Nat → Int32) : (hIn xs).2.2.1 17 1 = (4, 0, 23) := rfl
set_option maxRecDepth 40000 in
theorem hIn_r_17_2 (xs : Nat → Int32) : (hIn xs).2.2.1 17 2 = (4, 0, 24) := rfl
set_option maxRecDepth 40000 in
theorem hIn_r_17_3 (xs : Nat → Int32) : (hIn xs).2.2.1 17 3 = (4, 0, 25) := rfl
set_option maxRecDepth 40000 in
theorem hIn_r_17_4 (xs : Nat → Int32) : (hIn xs).2.2.1 17 4 = (4, 0, 26) := rfl
set_option maxRecDepth 40000 in
theorem hIn_r_17_5 (xs : Nat → Int32) : (hIn xs).2.2.1 17 5 = (4, 0, 27) := rfl
set_option maxRecDepth 40000 in
theorem hIn_r_18_0 (xs : Nat → Int32) : (hIn xs).2.2.1 18 0 = (23, 400, 19) := rfl
set_option maxRecDepth 40000 in
theorem hIn_r_18_1 (xs : Nat → Int32) : (hIn xs).2.2.1 18 1 = (20, 400, 20) := rfl
set_option maxRecDepth 40000 in
theorem hIn_r_18_2 (xs : Nat → Int32) : (hIn xs).2.2.1 18 2 = (20, 32, 21) := rfl
set_option maxRecDepth 40000 in
theorem hIn_r_22_4 (xs : Nat → Int32) : (hIn xs).2.2.1 22 4 = (40, 0, 21) := rfl
set_option maxRecDepth 40000 in
theorem hIn_r_23_4 (xs : Nat → Int32) : (hIn xs).2.2.1 23 4 = (40, 0, 21) := rfl
set_option maxRecDepth 40000 in
theorem hIn_r_24_4 (xs : Nat → Int32) : (hIn xs).2.2.1 24 4 = (40, 0, 21) := rfl
set_option maxRecDepth 40000 in
theorem hIn_r_25_4 (xs : Nat → Int32) : (hIn xs).2.2.1 25 4 = (40, 0, 21) := rfl
set_option maxRecDepth 40000 in
theorem hIn_r_26_4 (xs : Nat → Int32) : (hIn xs).2.2.1 26 4 = (40, 0, 21) := rfl
set_option maxRecDepth 40000 in
theorem hIn_r_27_4 (xs : Nat → Int32) : (hIn xs).2.2.1 27 4 = (40, 0, 21) := rfl
set_option maxRecDepth 40000 in
theorem hIn_r_31_0 (xs : Nat → Int32) : (hIn xs).2.2.1 31 0 = (10, 0, 32) := rfl
set_option maxRecDepth 40000 in
theorem hIn_r_31_1 (xs : Nat → Int32) : (hIn xs).2.2.1 31 1 = (10, 0, 37) := rfl
set_option maxRecDepth 40000 in
theorem hIn_r_31_2 (xs : Nat → Int32) : (hIn xs).2.2.1 31 2 = (10, 0, 42) := rfl
set_option maxRecDepth 40000 in
theorem hIn_r_31_3 (xs : Nat → Int32) : (hIn xs).2.2.1 31 3 = (10, 0, 47) := rfl
set_option maxRecDepth 40000 in
theorem hIn_r_31_4 (xs : Nat → Int32) : (hIn xs).2.2.1 31 4 = (10, 0, 52) := rfl
set_option maxRecDepth 40000 in
theorem hIn_r_31_5 (xs : Nat → Int32) : (hIn xs).2.2.1 31 5 = (10, 0, 57) := rfl
set_option maxRecDepth 40000 in
theorem hIn_r_32_0 (xs : Nat → Int32) : (hIn xs).2.2.1 32 0 = (20, 128, 33) := rfl
set_option maxRecDepth 40000 in
theorem hIn_r_32_1 (xs : Nat → Int32) : (hIn xs).2.2.1 32 1 = (20, 128, 34) := rfl
set_option maxRecDepth 40000 in
theorem hIn_r_32_2 (xs : Nat → Int32) : (hIn xs).2.2.1 32 2 = (20, 128, 35) := rfl
set_option maxRecDepth 40000 in
theorem hIn_r_32_3 (xs : Nat → Int32) : (hIn xs).2.2.1 32 3 = (20, 128, 36) := rfl
set_option maxRecDepth 40000 in
theorem hIn_r_37_0 (xs : Nat → Int32) : (hIn xs).2.2.1 37 0 = (20, 128, 38) := rfl
set_option maxRecDepth 40000 in
theorem hIn_r_37_1 (xs : Nat → Int32) : (hIn xs).2.2.1 37 1 = (20, 128, 39) := rfl
set_option maxRecDepth 40000 in
theorem hIn_r_37_2 (xs : Nat → Int32) : (hIn xs).2.2.1 37 2 = (20, 128, 40) := rfl
set_option maxRecDepth 40000 in
theorem hIn_r_37_3 (xs : Nat → Int32) : (hIn xs).2.2.1 37 3 = (20, 128, 41) := rfl
set_option maxRecDepth 40000 in
theorem hIn_r_42_0 (xs : Nat → Int32) : (hIn xs).2.2.1 42 0 = (20, 128, 43) := rfl
set_option maxRecDepth 40000 in
theorem hIn_r_42_1 (xs : Nat → Int32) : (hIn xs).2.2.1 42 1 = (20, 128, 44) := rfl
set_option maxRecDepth 40000 in
theorem hIn_r_42_2 (xs : Nat → Int32) : (hIn xs).2.2.1 42 2 = (20, 128, 45) := rfl
set_option maxRecDepth 40000 in
theorem hIn_r_42_3 (xs : Nat → Int32) : (hIn xs).2.2.1 42 3 = (20, 128, 46) := rfl
set_option maxRecDepth 40000 in
theorem hIn_r_47_0 (xs : Nat → Int32) : (hIn xs).2.2.1 47 0 = (20, 128, 48) := rfl
set_option maxRecDepth 40000 in
theorem hIn_r_47_1 (xs : Nat → Int32) : (hIn xs).2.2.1 47 1 = (20, 128, 49) := rfl
set_option maxRecDepth 40000 in
theorem hIn_r_47_2 (xs : Nat → Int32) : (hIn xs).2.2.1 47 2 = (20, 128, 50) := rfl
set_option maxRecDepth 40000 in
theorem hIn_r_47_3 (xs : Nat → Int32) : (hIn xs).2.2.1 47 3 = (20, 128, 51) := rfl
set_option maxRecDepth 40000 in
theorem hIn_r_52_0 (xs : Nat → Int32) : (hIn xs).2.2.1 52 0 = (20, 128, 53) := rfl
set_option maxRecDepth 40000 in
theorem hIn_r_52_1 (xs : Nat → Int32) : (hIn xs).2.2.1 52 1 = (20, 128, 54) := rfl
set_option maxRecDepth 40000 in
theorem hIn_r_52_2 (xs : Nat → Int32) : (hIn xs).2.2.1 52 2 = (20, 128, 55) := rfl
set_option maxRecDepth 40000 in
theorem hIn_r_52_3 (xs : Nat → Int32) : (hIn xs).2.2.1 52 3 = (20, 128, 56) := rfl
set_option maxRecDepth 40000 in
theorem hIn_r_57_0 (xs : Nat → Int32) : (hIn xs).2.2.1 57 0 = (20, 128, 58) := rfl
set_option maxRecDepth 40000 in
theorem hIn_r_57_1 (xs : Nat → Int32) : (hIn xs).2.2.1 57 1 = (20, 128, 59) := rfl
set_option maxRecDepth 40000 in
theorem hIn_r_57_2 (xs : Nat → Int32) : (hIn xs).2.2.1 57 2 = (20, 128, 60) := rfl
set_option maxRecDepth 40000 in
theorem hIn_r_57_3 (xs : Nat → Int32) : (hIn xs).2.2.1 57 3 = (20, 128, 61) := rfl
set_option maxRecDepth 40000 in
theorem hIn_r_62_0 (xs : Nat → Int32) : (hIn xs).2.2.1 62 0 = (20, 64, 63) := rfl
set_option maxRecDepth 40000 in
theorem hIn_r_62_1 (xs : Nat → Int32) : (hIn xs).2.2.1 62 1 = (20, 64, 64) := rfl
set_option maxRecDepth 40000 in
theorem hIn_r_62_2 (xs : Nat → Int32) : (hIn xs).2.2.1 62 2 = (20, 64, 65) := rfl
set_option maxRecDepth 40000 in
theorem hIn_r_62_3 (xs : Nat → Int32) : (hIn xs).2.2.1 62 3 = (20, 64, 66) := rfl
set_option maxRecDepth 40000 in
theorem hIn_r_62_4 (xs : Nat → Int32) : (hIn xs).2.2.1 62 4 = (20, 64, 67) := rfl
set_option maxRecDepth 40000 in
theorem hIn_r_68_0 (xs : Nat → Int32) : (hIn xs).2.2.1 68 0 = (20, 8, 69) := rfl
set_option maxRecDepth 40000 in
theorem hIn_r_68_1 (xs : Nat → Int32) : (hIn xs).2.2.1 68 1 = (20, 8, 70) := rfl
set_option maxRecDepth 40000 in
theorem hIn_r_68_2 (xs : Nat → Int32) : (hIn xs).2.2.1 68 2 = (20, 8, 71) := rfl
set_option maxRecDepth 40000 in
theorem hIn_r_68_3 (xs : Nat → Int32) : (hIn xs).2.2.1 68 3 = (24, 6, 72) := rfl
set_option maxRecDepth 40000 in
theorem hIn_r_68_4 (xs : Nat → Int32) : (hIn xs).2.2.1 68 4 = (5, 0, 73) := rfl
set_option maxRecDepth 40000 in
theorem hIn_r_72_0 (xs : Nat → Int32) : (hIn xs).2.2.1 72 0 = (4, 0, 77) := rfl
set_option maxRecDepth 40000 in
theorem hIn_r_72_1 (xs : Nat → Int32) : (hIn xs).2.2.1 72 1 = (4, 0, 78) := rfl
set_option maxRecDepth 40000 in
theorem hIn_r_72_2 (xs : Nat → Int32) : (hIn xs).2.2.1 72 2 = (4, 0, 79) := rfl
set_option maxRecDepth 40000 in
theorem hIn_r_72_3 (xs : Nat → Int32) : (hIn xs).2.2.1 72 3 = (4, 0, 80) := rfl
set_option maxRecDepth 40000 in
theorem hIn_r_72_4 (xs : Nat → Int32) : (hIn xs).2.2.1 72 4 = (4, 0, 81) := rfl
set_option maxRecDepth 40000 in
theorem hIn_r_72_5 (xs : Nat → Int32) : (hIn xs).2.2.1 72 5 = (4, 0, 82) := rfl
set_option maxRecDepth 40000 in
theorem hIn_r_73_0 (xs : Nat → Int32) : (hIn xs).2.2.1 73 0 = (23, 400, 74) := rfl
set_option maxRecDepth 40000 in
theorem hIn_r_73_1 (xs : Nat → Int32) : (hIn xs).2.2.1 73 1 = (20, 400, 75) := rfl
set_option maxRecDepth 40000 in
theorem hIn_r_73_2 (xs : Nat → Int32) : (hIn xs).2.2.1 73 2 = (20, 32, 76) := rfl
set_option maxRecDepth 40000 in
theorem hIn_r_77_4 (xs : Nat → Int32) : (hIn xs).2.2.1 77 4 = (40, 0, 21) := rfl
set_option maxRecDepth 40000 in
theorem hIn_r_78_4 (xs : Nat → Int32) : (hIn xs).2.2.1 78 4 = (40, 0, 21) := rfl
set_option maxRecDepth 40000 in
theorem hIn_r_79_4 (xs : Nat → Int32) : (hIn xs).2.2.1 79 4 = (40, 0, 21) := rfl
set_option maxRecDepth 40000 in
theorem hIn_r_80_4 (xs : Nat → Int32) : (hIn xs).2.2.1 80 4 = (40, 0, 21) := rfl
set_option maxRecDepth 40000 in
theorem hIn_r_81_4 (xs : Nat → Int32) : (hIn xs).2.2.1 81 4 = (40, 0, 21) := rfl
set_option maxRecDepth 40000 in
theorem hIn_r_82_4 (xs : Nat → Int32) : (hIn xs).2.2.1 82 4 = (40, 0, 21) := rfl
