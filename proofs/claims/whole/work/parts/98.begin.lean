/-! Where the law begins: both show the empty state. -/
theorem Sh_hIn (xs : Nat → Int32) : Sh (hIn xs) := by
  unfold Sh shL
  refine List.forall_mem_cons.mpr ⟨hIn_r_1_0 xs, ?_⟩
  refine List.forall_mem_cons.mpr ⟨hIn_r_1_1 xs, ?_⟩
  refine List.forall_mem_cons.mpr ⟨hIn_r_1_2 xs, ?_⟩
  refine List.forall_mem_cons.mpr ⟨hIn_r_1_3 xs, ?_⟩
  refine List.forall_mem_cons.mpr ⟨hIn_r_1_4 xs, ?_⟩
  refine List.forall_mem_cons.mpr ⟨hIn_r_1_5 xs, ?_⟩
  refine List.forall_mem_cons.mpr ⟨hIn_r_1_6 xs, ?_⟩
  refine List.forall_mem_cons.mpr ⟨hIn_r_2_0 xs, ?_⟩
  refine List.forall_mem_cons.mpr ⟨hIn_r_2_1 xs, ?_⟩
  refine List.forall_mem_cons.mpr ⟨hIn_r_2_2 xs, ?_⟩
  refine List.forall_mem_cons.mpr ⟨hIn_r_2_3 xs, ?_⟩
  refine List.forall_mem_cons.mpr ⟨hIn_r_3_0 xs, ?_⟩
  refine List.forall_mem_cons.mpr ⟨hIn_r_3_1 xs, ?_⟩
  refine List.forall_mem_cons.mpr ⟨hIn_r_3_2 xs, ?_⟩
  refine List.forall_mem_cons.mpr ⟨hIn_r_3_3 xs, ?_⟩
  refine List.forall_mem_cons.mpr ⟨hIn_r_3_4 xs, ?_⟩
  refine List.forall_mem_cons.mpr ⟨hIn_r_4_0 xs, ?_⟩
  refine List.forall_mem_cons.mpr ⟨hIn_r_13_0 xs, ?_⟩
  refine List.forall_mem_cons.mpr ⟨hIn_r_13_1 xs, ?_⟩
  refine List.forall_mem_cons.mpr ⟨hIn_r_13_2 xs, ?_⟩
  refine List.forall_mem_cons.mpr ⟨hIn_r_13_3 xs, ?_⟩
  refine List.forall_mem_cons.mpr ⟨hIn_r_13_4 xs, ?_⟩
  refine List.forall_mem_cons.mpr ⟨hIn_r_17_0 xs, ?_⟩
  refine List.forall_mem_cons.mpr ⟨hIn_r_17_1 xs, ?_⟩
  refine List.forall_mem_cons.mpr ⟨hIn_r_17_2 xs, ?_⟩
  refine List.forall_mem_cons.mpr ⟨hIn_r_17_3 xs, ?_⟩
  refine List.forall_mem_cons.mpr ⟨hIn_r_17_4 xs, ?_⟩
  refine List.forall_mem_cons.mpr ⟨hIn_r_17_5 xs, ?_⟩
  refine List.forall_mem_cons.mpr ⟨hIn_r_18_0 xs, ?_⟩
  refine List.forall_mem_cons.mpr ⟨hIn_r_18_1 xs, ?_⟩
  refine List.forall_mem_cons.mpr ⟨hIn_r_18_2 xs, ?_⟩
  refine List.forall_mem_cons.mpr ⟨hIn_r_31_0 xs, ?_⟩
  refine List.forall_mem_cons.mpr ⟨hIn_r_31_1 xs, ?_⟩
  refine List.forall_mem_cons.mpr ⟨hIn_r_31_2 xs, ?_⟩
  refine List.forall_mem_cons.mpr ⟨hIn_r_31_3 xs, ?_⟩
  refine List.forall_mem_cons.mpr ⟨hIn_r_31_4 xs, ?_⟩
  refine List.forall_mem_cons.mpr ⟨hIn_r_31_5 xs, ?_⟩
  refine List.forall_mem_cons.mpr ⟨hIn_r_32_0 xs, ?_⟩
  refine List.forall_mem_cons.mpr ⟨hIn_r_32_1 xs, ?_⟩
  refine List.forall_mem_cons.mpr ⟨hIn_r_32_2 xs, ?_⟩
  refine List.forall_mem_cons.mpr ⟨hIn_r_32_3 xs, ?_⟩
  refine List.forall_mem_cons.mpr ⟨hIn_r_37_0 xs, ?_⟩
  refine List.forall_mem_cons.mpr ⟨hIn_r_37_1 xs, ?_⟩
  refine List.forall_mem_cons.mpr ⟨hIn_r_37_2 xs, ?_⟩
  refine List.forall_mem_cons.mpr ⟨hIn_r_37_3 xs, ?_⟩
  refine List.forall_mem_cons.mpr ⟨hIn_r_42_0 xs, ?_⟩
  refine List.forall_mem_cons.mpr ⟨hIn_r_42_1 xs, ?_⟩
  refine List.forall_mem_cons.mpr ⟨hIn_r_42_2 xs, ?_⟩
  refine List.forall_mem_cons.mpr ⟨hIn_r_42_3 xs, ?_⟩
  refine List.forall_mem_cons.mpr ⟨hIn_r_47_0 xs, ?_⟩
  refine List.forall_mem_cons.mpr ⟨hIn_r_47_1 xs, ?_⟩
  refine List.forall_mem_cons.mpr ⟨hIn_r_47_2 xs, ?_⟩
  refine List.forall_mem_cons.mpr ⟨hIn_r_47_3 xs, ?_⟩
  refine List.forall_mem_cons.mpr ⟨hIn_r_52_0 xs, ?_⟩
  refine List.forall_mem_cons.mpr ⟨hIn_r_52_1 xs, ?_⟩
  refine List.forall_mem_cons.mpr ⟨hIn_r_52_2 xs, ?_⟩
  refine List.forall_mem_cons.mpr ⟨hIn_r_52_3 xs, ?_⟩
  refine List.forall_mem_cons.mpr ⟨hIn_r_57_0 xs, ?_⟩
  refine List.forall_mem_cons.mpr ⟨hIn_r_57_1 xs, ?_⟩
  refine List.forall_mem_cons.mpr ⟨hIn_r_57_2 xs, ?_⟩
  refine List.forall_mem_cons.mpr ⟨hIn_r_57_3 xs, ?_⟩
  refine List.forall_mem_cons.mpr ⟨hIn_r_68_0 xs, ?_⟩
  refine List.forall_mem_cons.mpr ⟨hIn_r_68_1 xs, ?_⟩
  refine List.forall_mem_cons.mpr ⟨hIn_r_68_2 xs, ?_⟩
  refine List.forall_mem_cons.mpr ⟨hIn_r_68_3 xs, ?_⟩
  refine List.forall_mem_cons.mpr ⟨hIn_r_68_4 xs, ?_⟩
  refine List.forall_mem_cons.mpr ⟨hIn_r_72_0 xs, ?_⟩
  refine List.forall_mem_cons.mpr ⟨hIn_r_72_1 xs, ?_⟩
  refine List.forall_mem_cons.mpr ⟨hIn_r_72_2 xs, ?_⟩
  refine List.forall_mem_cons.mpr ⟨hIn_r_72_3 xs, ?_⟩
  refine List.forall_mem_cons.mpr ⟨hIn_r_72_4 xs, ?_⟩
  refine List.forall_mem_cons.mpr ⟨hIn_r_72_5 xs, ?_⟩
  refine List.forall_mem_cons.mpr ⟨hIn_r_73_0 xs, ?_⟩
  refine List.forall_mem_cons.mpr ⟨hIn_r_73_1 xs, ?_⟩
  refine List.forall_mem_cons.mpr ⟨hIn_r_73_2 xs, ?_⟩
  refine List.forall_mem_cons.mpr ⟨hIn_r_83_1 xs, ?_⟩
  refine List.forall_mem_cons.mpr ⟨hIn_r_83_3 xs, ?_⟩
  refine List.forall_mem_cons.mpr ⟨hIn_r_83_4 xs, ?_⟩
  refine List.forall_mem_cons.mpr ⟨hIn_r_83_5 xs, ?_⟩
  refine List.forall_mem_cons.mpr ⟨hIn_r_83_6 xs, ?_⟩
  refine List.forall_mem_cons.mpr ⟨hIn_r_83_12 xs, ?_⟩
  refine List.forall_mem_cons.mpr ⟨hIn_r_83_13 xs, ?_⟩
  refine List.forall_mem_cons.mpr ⟨hIn_r_83_15 xs, ?_⟩
  refine List.forall_mem_cons.mpr ⟨hIn_r_83_17 xs, ?_⟩
  refine List.forall_mem_cons.mpr ⟨hIn_r_83_18 xs, ?_⟩
  refine List.forall_mem_cons.mpr ⟨hIn_r_83_19 xs, ?_⟩
  refine List.forall_mem_cons.mpr ⟨hIn_r_83_20 xs, ?_⟩
  refine List.forall_mem_cons.mpr ⟨hIn_r_83_22 xs, ?_⟩
  refine List.forall_mem_cons.mpr ⟨hIn_r_83_23 xs, ?_⟩
  refine List.forall_mem_cons.mpr ⟨hIn_r_83_24 xs, ?_⟩
  refine List.forall_mem_cons.mpr ⟨hIn_r_83_28 xs, ?_⟩
  exact fun t ht => absurd ht List.not_mem_nil
set_option maxRecDepth 40000 in
theorem hI_4_1 (xs : Nat → Int32) : (hIn xs).1 4 1 = iZ (0) := rfl
set_option maxRecDepth 40000 in
theorem hI_2_7 (xs : Nat → Int32) : (hIn xs).1 2 7 = iZ (-1) := rfl
set_option maxRecDepth 40000 in
theorem hI_68_5 (xs : Nat → Int32) : (hIn xs).1 68 5 = iZ (0) := rfl
set_option maxRecDepth 40000 in
theorem hI_68_6 (xs : Nat → Int32) : (hIn xs).1 68 6 = iZ (0) := rfl
set_option maxRecDepth 40000 in
theorem hI_68_7 (xs : Nat → Int32) : (hIn xs).1 68 7 = iZ (0) := rfl
set_option maxRecDepth 40000 in
theorem hI_1_8 (xs : Nat → Int32) : (hIn xs).1 1 8 = iZ (0) := rfl
set_option maxRecDepth 40000 in
theorem hI_1_9 (xs : Nat → Int32) : (hIn xs).1 1 9 = iZ (0) := rfl
set_option maxRecDepth 40000 in
theorem hI_1_10 (xs : Nat → Int32) : (hIn xs).1 1 10 = iZ (-1) := rfl
set_option maxRecDepth 40000 in
theorem hI_1_11 (xs : Nat → Int32) : (hIn xs).1 1 11 = iZ (0) := rfl
set_option maxRecDepth 40000 in
theorem hI_62_5 (xs : Nat → Int32) : (hIn xs).1 62 5 = iZ (0) := rfl
set_option maxRecDepth 40000 in
theorem hI_32_4 (xs : Nat → Int32) : (hIn xs).1 32 4 = iZ (0) := rfl
set_option maxRecDepth 40000 in
theorem hI_32_5 (xs : Nat → Int32) : (hIn xs).1 32 5 = iZ (0) := rfl
set_option maxRecDepth 40000 in
theorem hI_37_4 (xs : Nat → Int32) : (hIn xs).1 37 4 = iZ (0) := rfl
set_option maxRecDepth 40000 in
theorem hI_37_5 (xs : Nat → Int32) : (hIn xs).1 37 5 = iZ (0) := rfl
set_option maxRecDepth 40000 in
theorem hI_42_4 (xs : Nat → Int32) : (hIn xs).1 42 4 = iZ (0) := rfl
set_option maxRecDepth 40000 in
theorem hI_42_5 (xs : Nat → Int32) : (hIn xs).1 42 5 = iZ (0) := rfl
set_option maxRecDepth 40000 in
theorem hI_47_4 (xs : Nat → Int32) : (hIn xs).1 47 4 = iZ (0) := rfl
set_option maxRecDepth 40000 in
theorem hI_47_5 (xs : Nat → Int32) : (hIn xs).1 47 5 = iZ (0) := rfl
set_option maxRecDepth 40000 in
theorem hI_52_4 (xs : Nat → Int32) : (hIn xs).1 52 4 = iZ (0) := rfl
set_option maxRecDepth 40000 in
theorem hI_52_5 (xs : Nat → Int32) : (hIn xs).1 52 5 = iZ (0) := rfl
set_option maxRecDepth 40000 in
theorem hI_57_4 (xs : Nat → Int32) : (hIn xs).1 57 4 = iZ (0) := rfl
set_option maxRecDepth 40000 in
theorem hI_57_5 (xs : Nat → Int32) : (hIn xs).1 57 5 = iZ (0) := rfl
set_option maxRecDepth 40000 in
theorem hI_83_2 (xs : Nat → Int32) : (hIn xs).1 83 2 = iZ (0) := rfl
set_option maxRecDepth 40000 in
theorem hI_83_11 (xs : Nat → Int32) : (hIn xs).1 83 11 = iZ (-1) := rfl
set_option maxRecDepth 40000 in
theorem hI_93_0 (xs : Nat → Int32) : (hIn xs).1 93 0 = iZ (0) := rfl
set_option maxRecDepth 40000 in
theorem hI_93_1 (xs : Nat → Int32) : (hIn xs).1 93 1 = iZ (0) := rfl
set_option maxRecDepth 40000 in
theorem hI_93_2 (xs : Nat → Int32) : (hIn xs).1 93 2 = iZ (1) := rfl
set_option maxRecDepth 40000 in
theorem hI_93_3 (xs : Nat → Int32) : (hIn xs).1 93 3 = iZ (5) := rfl
set_option maxRecDepth 40000 in
theorem hI_83_21 (xs : Nat → Int32) : (hIn xs).1 83 21 = iZ (0) := rfl
set_option maxRecDepth 40000 in
theorem hI_83_25 (xs : Nat → Int32) : (hIn xs).1 83 25 = iZ (0) := rfl
set_option maxRecDepth 40000 in
theorem hI_83_26 (xs : Nat → Int32) : (hIn xs).1 83 26 = iZ (-1) := rfl
set_option maxRecDepth 40000 in
theorem hI_83_27 (xs : Nat → Int32) : (hIn xs).1 83 27 = iZ (0) := rfl
set_option maxRecDepth 40000 in
theorem hI_83_30 (xs : Nat → Int32) : (hIn xs).1 83 30 = iZ (0) := rfl
set_option maxRecDepth 40000 in
theorem hI_83_32 (xs : Nat → Int32) : (hIn xs).1 83 32 = iZ (0) := rfl
set_option maxRecDepth 40000 in
theorem hI_99_0 (xs : Nat → Int32) : (hIn xs).1 99 0 = iZ (0) := rfl
set_option maxRecDepth 40000 in
theorem hI_99_1 (xs : Nat → Int32) : (hIn xs).1 99 1 = iZ (0) := rfl
set_option maxRecDepth 40000 in
theorem hI_99_2 (xs : Nat → Int32) : (hIn xs).1 99 2 = iZ (0) := rfl
set_option maxRecDepth 40000 in
theorem hI_99_3 (xs : Nat → Int32) : (hIn xs).1 99 3 = iZ (0) := rfl
set_option maxRecDepth 40000 in
theorem hI_99_4 (xs : Nat → Int32) : (hIn xs).1 99 4 = iZ (0) := rfl
set_option maxRecDepth 40000 in
theorem hI_99_5 (xs : Nat → Int32) : (hIn xs).1 99 5 = iZ (0) := rfl
set_option maxRecDepth 40000 in
theorem hL_88_0 (xs : Nat → Int32) : (hIn xs).2.1 88 0 = 278194 := rfl
set_option maxRecDepth 40000 in
theorem hL_88_1 (xs : Nat → Int32) : (hIn xs).2.1 88 1 = 370116 := rfl
set_option maxRecDepth 40000 in
theorem hL_88_2 (xs : Nat → Int32) : (hIn xs).2.1 88 2 = 777297172 := rfl
set_option maxRecDepth 40000 in
theorem hL_88_3 (xs : Nat → Int32) : (hIn xs).2.1 88 3 = 763335 := rfl
set_option maxRecDepth 40000 in
theorem hI_0 (xs : Nat → Int32) (j : Nat) : (hIn xs).1 0 j = xs j := rfl
