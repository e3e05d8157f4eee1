/-! Where the law begins: the class shows the empty state. -/
theorem Sh_hIn (xs : Nat → Int32) : Sh (hIn xs) := by
  unfold Sh shL
  refine List.forall_mem_cons.mpr ⟨hIn_r_1_0 xs, ?_⟩
  refine List.forall_mem_cons.mpr ⟨hIn_r_1_1 xs, ?_⟩
  refine List.forall_mem_cons.mpr ⟨hIn_r_1_2 xs, ?_⟩
  refine List.forall_mem_cons.mpr ⟨hIn_r_1_3 xs, ?_⟩
  refine List.forall_mem_cons.mpr ⟨hIn_r_1_4 xs, ?_⟩
  refine List.forall_mem_cons.mpr ⟨hIn_r_1_5 xs, ?_⟩
  refine List.forall_mem_cons.mpr ⟨hIn_r_1_6 xs, ?_⟩
  refine List.forall_mem_cons.mpr ⟨hIn_r_2_0 xs, ?_⟩
  refine List.forall_mem_cons.mpr ⟨hIn_r_2_1 xs, ?_⟩
  refine List.forall_mem_cons.mpr ⟨hIn_r_2_2 xs, ?_⟩
  refine List.forall_mem_cons.mpr ⟨hIn_r_2_3 xs, ?_⟩
  refine List.forall_mem_cons.mpr ⟨hIn_r_3_0 xs, ?_⟩
  refine List.forall_mem_cons.mpr ⟨hIn_r_3_1 xs, ?_⟩
  refine List.forall_mem_cons.mpr ⟨hIn_r_3_2 xs, ?_⟩
  refine List.forall_mem_cons.mpr ⟨hIn_r_3_3 xs, ?_⟩
  refine List.forall_mem_cons.mpr ⟨hIn_r_3_4 xs, ?_⟩
  refine List.forall_mem_cons.mpr ⟨hIn_r_4_0 xs, ?_⟩
  refine List.forall_mem_cons.mpr ⟨hIn_r_13_0 xs, ?_⟩
  refine List.forall_mem_cons.mpr ⟨hIn_r_13_1 xs, ?_⟩
  refine List.forall_mem_cons.mpr ⟨hIn_r_13_2 xs, ?_⟩
  refine List.forall_mem_cons.mpr ⟨hIn_r_13_3 xs, ?_⟩
  refine List.forall_mem_cons.mpr ⟨hIn_r_13_4 xs, ?_⟩
  refine List.forall_mem_cons.mpr ⟨hIn_r_17_0 xs, ?_⟩
  refine List.forall_mem_cons.mpr ⟨hIn_r_17_1 xs, ?_⟩
  refine List.forall_mem_cons.mpr ⟨hIn_r_17_2 xs, ?_⟩
  refine List.forall_mem_cons.mpr ⟨hIn_r_17_3 xs, ?_⟩
  refine List.forall_mem_cons.mpr ⟨hIn_r_17_4 xs, ?_⟩
  refine List.forall_mem_cons.mpr ⟨hIn_r_17_5 xs, ?_⟩
  refine List.forall_mem_cons.mpr ⟨hIn_r_18_0 xs, ?_⟩
  refine List.forall_mem_cons.mpr ⟨hIn_r_18_1 xs, ?_⟩
  refine List.forall_mem_cons.mpr ⟨hIn_r_18_2 xs, ?_⟩
  refine List.forall_mem_cons.mpr ⟨hIn_r_31_0 xs, ?_⟩
  refine List.forall_mem_cons.mpr ⟨hIn_r_31_1 xs, ?_⟩
  refine List.forall_mem_cons.mpr ⟨hIn_r_31_2 xs, ?_⟩
  refine List.forall_mem_cons.mpr ⟨hIn_r_31_3 xs, ?_⟩
  refine List.forall_mem_cons.mpr ⟨hIn_r_31_4 xs, ?_⟩
  refine List.forall_mem_cons.mpr ⟨hIn_r_31_5 xs, ?_⟩
  refine List.forall_mem_cons.mpr ⟨hIn_r_32_0 xs, ?_⟩
  refine List.forall_mem_cons.mpr ⟨hIn_r_32_1 xs, ?_⟩
  refine List.forall_mem_cons.mpr ⟨hIn_r_32_2 xs, ?_⟩
  refine List.forall_mem_cons.mpr ⟨hIn_r_32_3 xs, ?_⟩
  refine List.forall_mem_cons.mpr ⟨hIn_r_37_0 xs, ?_⟩
  refine List.forall_mem_cons.mpr ⟨hIn_r_37_1 xs, ?_⟩
  refine List.forall_mem_cons.mpr ⟨hIn_r_37_2 xs, ?_⟩
  refine List.forall_mem_cons.mpr ⟨hIn_r_37_3 xs, ?_⟩
  refine List.forall_mem_cons.mpr ⟨hIn_r_42_0 xs, ?_⟩
  refine List.forall_mem_cons.mpr ⟨hIn_r_42_1 xs, ?_⟩
  refine List.forall_mem_cons.mpr ⟨hIn_r_42_2 xs, ?_⟩
  refine List.forall_mem_cons.mpr ⟨hIn_r_42_3 xs, ?_⟩
  refine List.forall_mem_cons.mpr ⟨hIn_r_47_0 xs, ?_⟩
  refine List.forall_mem_cons.mpr ⟨hIn_r_47_1 xs, ?_⟩
  refine List.forall_mem_cons.mpr ⟨hIn_r_47_2 xs, ?_⟩
  refine List.forall_mem_cons.mpr ⟨hIn_r_47_3 xs, ?_⟩
  refine List.forall_mem_cons.mpr ⟨hIn_r_52_0 xs, ?_⟩
  refine List.forall_mem_cons.mpr ⟨hIn_r_52_1 xs, ?_⟩
  refine List.forall_mem_cons.mpr ⟨hIn_r_52_2 xs, ?_⟩
  refine List.forall_mem_cons.mpr ⟨hIn_r_52_3 xs, ?_⟩
  refine List.forall_mem_cons.mpr ⟨hIn_r_57_0 xs, ?_⟩
  refine List.forall_mem_cons.mpr ⟨hIn_r_57_1 xs, ?_⟩
  refine List.forall_mem_cons.mpr ⟨hIn_r_57_2 xs, ?_⟩
  refine List.forall_mem_cons.mpr ⟨hIn_r_57_3 xs, ?_⟩
  refine List.forall_mem_cons.mpr ⟨hIn_r_68_0 xs, ?_⟩
  refine List.forall_mem_cons.mpr ⟨hIn_r_68_1 xs, ?_⟩
  refine List.forall_mem_cons.mpr ⟨hIn_r_68_2 xs, ?_⟩
  refine List.forall_mem_cons.mpr ⟨hIn_r_68_3 xs, ?_⟩
  refine List.forall_mem_cons.mpr ⟨hIn_r_68_4 xs, ?_⟩
  refine List.forall_mem_cons.mpr ⟨hIn_r_72_0 xs, ?_⟩
  refine List.forall_mem_cons.mpr ⟨hIn_r_72_1 xs, ?_⟩
  refine List.forall_mem_cons.mpr ⟨hIn_r_72_2 xs, ?_⟩
  refine List.forall_mem_cons.mpr ⟨hIn_r_72_3 xs, ?_⟩
  refine List.forall_mem_cons.mpr ⟨hIn_r_72_4 xs, ?_⟩
  refine List.forall_mem_cons.mpr ⟨hIn_r_72_5 xs, ?_⟩
  refine List.forall_mem_cons.mpr ⟨hIn_r_73_0 xs, ?_⟩
  refine List.forall_mem_cons.mpr ⟨hIn_r_73_1 xs, ?_⟩
  refine List.forall_mem_cons.mpr ⟨hIn_r_73_2 xs, ?_⟩
  exact fun t ht => absurd ht List.not_mem_nil
set_option maxRecDepth 40000 in
theorem hI_4_1 (xs : Nat → Int32) : (hIn xs).1 4 1 = iZ (0) := rfl
set_option maxRecDepth 40000 in
theorem hI_2_7 (xs : Nat → Int32) : (hIn xs).1 2 7 = iZ (-1) := rfl
set_option maxRecDepth 40000 in
theorem hI_68_5 (xs : Nat → Int32) : (hIn xs).1 68 5 = iZ (0) := rfl
set_option maxRecDepth 40000 in
theorem hI_68_6 (xs : Nat → Int32) : (hIn xs).1 68 6 = iZ (0) := rfl
set_option maxRecDepth 40000 in
theorem hI_68_7 (xs : Nat → Int32) : (hIn xs).1 68 7 = iZ (0) := rfl
set_option maxRecDepth 40000 in
theorem hI_1_8 (xs : Nat → Int32) : (hIn xs).1 1 8 = iZ (0) := rfl
set_option maxRecDepth 40000 in
theorem hI_1_9 (xs : Nat → Int32) : (hIn xs).1 1 9 = iZ (0) := rfl
set_option maxRecDepth 40000 in
theorem hI_1_10 (xs : Nat → Int32) : (hIn xs).1 1 10 = iZ (-1) := rfl
set_option maxRecDepth 40000 in
theorem hI_1_11 (xs : Nat → Int32) : (hIn xs).1 1 11 = iZ (0) := rfl
set_option maxRecDepth 40000 in
theorem hI_62_5 (xs : Nat → Int32) : (hIn xs).1 62 5 = iZ (0) := rfl
set_option maxRecDepth 40000 in
theorem hI_32_4 (xs : Nat → Int32) : (hIn xs).1 32 4 = iZ (0) := rfl
set_option maxRecDepth 40000 in
theorem hI_32_5 (xs : Nat → Int32) : (hIn xs).1 32 5 = iZ (0) := rfl
set_option maxRecDepth 40000 in
theorem hI_37_4 (xs : Nat → Int32) : (hIn xs).1 37 4 = iZ (0) := rfl
set_option maxRecDepth 40000 in
theorem hI_37_5 (xs : Nat → Int32) : (hIn xs).1 37 5 = iZ (0) := rfl
set_option maxRecDepth 40000 in
theorem hI_42_4 (xs : Nat → Int32) : (hIn xs).1 42 4 = iZ (0) := rfl
set_option maxRecDepth 40000 in
theorem hI_42_5 (xs : Nat → Int32) : (hIn xs).1 42 5 = iZ (0) := rfl
set_option maxRecDepth 40000 in
theorem hI_47_4 (xs : Nat → Int32) : (hIn xs).1 47 4 = iZ (0) := rfl
set_option maxRecDepth 40000 in
theorem hI_47_5 (xs : Nat → Int32) : (hIn xs).1 47 5 = iZ (0) := rfl
set_option maxRecDepth 40000 in
theorem hI_52_4 (xs : Nat → Int32) : (hIn xs).1 52 4 = iZ (0) := rfl
set_option maxRecDepth 40000 in
theorem hI_52_5 (xs : Nat → Int32) : (hIn xs).1 52 5 = iZ (0) := rfl
set_option maxRecDepth 40000 in
theorem hI_57_4 (xs : Nat → Int32) : (hIn xs).1 57 4 = iZ (0) := rfl
set_option maxRecDepth 40000 in
theorem hI_57_5 (xs : Nat → Int32) : (hIn xs).1 57 5 = iZ (0) := rfl
set_option maxRecDepth 40000 in
theorem hI_0 (xs : Nat → Int32) (j : Nat) : (hIn xs).1 0 j = xs j := rfl
def S00 : Sta := mkS [] (-1) ([5], [], []) [] 0 (-1) 0 (fun _ => []) (fun _ => 0) []
def u00 : Q5 := (63, 64, 65, 66, 67)
theorem hI_w (xs : Nat → Int32) : ∀ g, g < 6 → winC (hIn xs) g [] ∧ (hIn xs).1 (32 + 5 * g) 5 = iZ ((0 : Nat) : Int) := by
  intro g hg
  have v : ∀ j, j < ([] : List Win).length → wr (hIn xs) g j = wz (([] : List Win).getD j w0) := fun j hj => absurd hj (Nat.not_lt_zero _)
  rcases (show g = 0 ∨ g = 1 ∨ g = 2 ∨ g = 3 ∨ g = 4 ∨ g = 5 by omega) with rfl | rfl | rfl | rfl | rfl | rfl
  · exact ⟨⟨hI_32_4 xs, by decide, v⟩, hI_32_5 xs⟩
  · exact ⟨⟨hI_37_4 xs, by decide, v⟩, hI_37_5 xs⟩
  · exact ⟨⟨hI_42_4 xs, by decide, v⟩, hI_42_5 xs⟩
  · exact ⟨⟨hI_47_4 xs, by decide, v⟩, hI_47_5 xs⟩
  · exact ⟨⟨hI_52_4 xs, by decide, v⟩, hI_52_5 xs⟩
  · exact ⟨⟨hI_57_4 xs, by decide, v⟩, hI_57_5 xs⟩
theorem CI_0 (xs : Nat → Int32) : CI (hIn xs) S00 68 64 u00 := by
  have hn := (hIn_N xs).1
  refine ⟨Sh_hIn xs, .inr rfl, hIn_r_1_7 xs, hIn_r_2_4 xs, ⟨hI_4_1 xs, fun j hj => absurd hj (Nat.not_lt_zero _)⟩, hI_2_7 xs, ⟨.inl ⟨hI_68_5 xs, rfl⟩, hI_68_6 xs, hI_68_7 xs, fun f hf => absurd hf (Nat.not_lt_zero _), fun g hg => absurd hg (Nat.not_lt_zero _)⟩, ⟨hI_1_8 xs, fun j hj => absurd hj (Nat.not_lt_zero _)⟩, hI_1_9 xs, hI_1_10 xs, hI_1_11 xs, hI_w xs, ⟨hI_62_5 xs, Nat.zero_le _, by decide, ⟨hIn_r_62_0 xs, hIn_r_62_1 xs, hIn_r_62_2 xs, hIn_r_62_3 xs, hIn_r_62_4 xs⟩, ?_, fun j hj => absurd hj (Nat.not_lt_zero _)⟩, by rw [hn]; exact Nat.le_refl _⟩
  rw [hn]
  unfold u00 qD qO
  decide
theorem WS_0 : WSr S00 0 (wmS S00) := by
  refine ⟨⟨by decide, by decide, fun j hj => ?_, by decide, by decide, fun g hg => absurd hg (Nat.not_lt_zero _)⟩, ⟨fun g hg => absurd hg (Nat.not_lt_zero _), fun F hF => absurd hF List.not_mem_nil, fun g hg => absurd hg (Nat.not_lt_zero _)⟩, ⟨Nat.zero_le _, fun j hj => absurd hj (Nat.not_lt_zero _)⟩, Nat.le_refl _, ⟨by decide, by decide, by decide, by decide, by decide⟩, fun g => ⟨fun z => absurd z (Nat.not_lt_zero _), fun _ => rfl⟩, ⟨?_, fun j hj => absurd hj (Nat.not_lt_zero _)⟩, Nat.zero_le _, byT_nil⟩
  · have e : j = 0 := by
      have : (bkS S00).1.length = 1 := rfl
      omega
    subst e
    exact ⟨by decide, by decide⟩
  · show 0 + lnL (fun _ => []) 6 0 ≤ 42 * 0
    rw [lnL_0]
    exact Nat.le_refl _
